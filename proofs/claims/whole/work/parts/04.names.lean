theorem dX7_between_0 : decode cX7_between 0 = .ok (.aload_n 0, 1) := by decide +kernel
theorem dX7_between_1 : decode cX7_between 1 = .ok (.iload_n 1, 1) := by decide +kernel
theorem dX7_between_2 : decode cX7_between 2 = .ok (.iload_n 2, 1) := by decide +kernel
theorem dX7_between_3 : decode cX7_between 3 = .ok (.invokevirtual 142, 3) := by decide +kernel
theorem dX7_between_6 : decode cX7_between 6 = .ok (.istore 5, 2) := by decide +kernel
theorem dX7_between_8 : decode cX7_between 8 = .ok (.iload 5, 2) := by decide +kernel
theorem dX7_between_10 : decode cX7_between 10 = .ok (.ifCond .ne 25, 3) := by decide +kernel
theorem dX7_between_13 : decode cX7_between 13 = .ok (.aload_n 0, 1) := by decide +kernel
theorem dX7_between_14 : decode cX7_between 14 = .ok (.iload_n 1, 1) := by decide +kernel
theorem dX7_between_15 : decode cX7_between 15 = .ok (.iload_n 3, 1) := by decide +kernel
theorem dX7_between_16 : decode cX7_between 16 = .ok (.invokevirtual 163, 3) := by decide +kernel
theorem dX7_between_19 : decode cX7_between 19 = .ok (.ifCond .ne 13, 3) := by decide +kernel
theorem dX7_between_22 : decode cX7_between 22 = .ok (.aload_n 0, 1) := by decide +kernel
theorem dX7_between_23 : decode cX7_between 23 = .ok (.iload_n 1, 1) := by decide +kernel
theorem dX7_between_24 : decode cX7_between 24 = .ok (.iload 4, 2) := by decide +kernel
theorem dX7_between_26 : decode cX7_between 26 = .ok (.invokevirtual 163, 3) := by decide +kernel
theorem dX7_between_29 : decode cX7_between 29 = .ok (.ifCond .eq 6, 3) := by decide +kernel
theorem dX7_between_32 : decode cX7_between 32 = .ok (.iconst 2, 1) := by decide +kernel
theorem dX7_between_33 : decode cX7_between 33 = .ok (.istore 5, 2) := by decide +kernel
theorem dX7_between_35 : decode cX7_between 35 = .ok (.iload 5, 2) := by decide +kernel
theorem dX7_between_37 : decode cX7_between 37 = .ok (.ifCond .le 10, 3) := by decide +kernel
theorem dX7_between_40 : decode cX7_between 40 = .ok (.aload_n 0, 1) := by decide +kernel
theorem dX7_between_41 : decode cX7_between 41 = .ok (.iload 5, 2) := by decide +kernel
theorem dX7_between_43 : decode cX7_between 43 = .ok (.invokevirtual 139, 3) := by decide +kernel
theorem dX7_between_46 : decode cX7_between 46 = .ok (.ireturn, 1) := by decide +kernel
theorem dX7_between_47 : decode cX7_between 47 = .ok (.aload_n 0, 1) := by decide +kernel
theorem dX7_between_48 : decode cX7_between 48 = .ok (.iload_n 1, 1) := by decide +kernel
theorem dX7_between_49 : decode cX7_between 49 = .ok (.iload_n 2, 1) := by decide +kernel
theorem dX7_between_50 : decode cX7_between 50 = .ok (.iload_n 3, 1) := by decide +kernel
theorem dX7_between_51 : decode cX7_between 51 = .ok (.invokevirtual 167, 3) := by decide +kernel
theorem dX7_between_54 : decode cX7_between 54 = .ok (.istore 6, 2) := by decide +kernel
theorem dX7_between_56 : decode cX7_between 56 = .ok (.aload_n 0, 1) := by decide +kernel
theorem dX7_between_57 : decode cX7_between 57 = .ok (.iload_n 1, 1) := by decide +kernel
theorem dX7_between_58 : decode cX7_between 58 = .ok (.iload_n 2, 1) := by decide +kernel
theorem dX7_between_59 : decode cX7_between 59 = .ok (.iload 4, 2) := by decide +kernel
theorem dX7_between_61 : decode cX7_between 61 = .ok (.invokevirtual 167, 3) := by decide +kernel
theorem dX7_between_64 : decode cX7_between 64 = .ok (.istore 7, 2) := by decide +kernel
theorem dX7_between_66 : decode cX7_between 66 = .ok (.iload 6, 2) := by decide +kernel
theorem dX7_between_68 : decode cX7_between 68 = .ok (.bipush 16, 2) := by decide +kernel
theorem dX7_between_70 : decode cX7_between 70 = .ok (.iand, 1) := by decide +kernel
theorem dX7_between_71 : decode cX7_between 71 = .ok (.ifCond .eq 15, 3) := by decide +kernel
theorem dX7_between_74 : decode cX7_between 74 = .ok (.iload 7, 2) := by decide +kernel
theorem dX7_between_76 : decode cX7_between 76 = .ok (.bipush 8, 2) := by decide +kernel
theorem dX7_between_78 : decode cX7_between 78 = .ok (.iand, 1) := by decide +kernel
theorem dX7_between_79 : decode cX7_between 79 = .ok (.ifCond .eq 7, 3) := by decide +kernel
theorem dX7_between_82 : decode cX7_between 82 = .ok (.iconst 1, 1) := by decide +kernel
theorem dX7_between_83 : decode cX7_between 83 = .ok (.goto 4, 3) := by decide +kernel
theorem dX7_between_86 : decode cX7_between 86 = .ok (.iconst 0, 1) := by decide +kernel
theorem dX7_between_87 : decode cX7_between 87 = .ok (.iload 6, 2) := by decide +kernel
theorem dX7_between_89 : decode cX7_between 89 = .ok (.iconst 1, 1) := by decide +kernel
theorem dX7_between_90 : decode cX7_between 90 = .ok (.iand, 1) := by decide +kernel
theorem dX7_between_91 : decode cX7_between 91 = .ok (.ifCond .ne 14, 3) := by decide +kernel
theorem dX7_between_94 : decode cX7_between 94 = .ok (.iload 7, 2) := by decide +kernel
theorem dX7_between_96 : decode cX7_between 96 = .ok (.iconst 4, 1) := by decide +kernel
theorem dX7_between_97 : decode cX7_between 97 = .ok (.iand, 1) := by decide +kernel
theorem dX7_between_98 : decode cX7_between 98 = .ok (.ifCond .ne 7, 3) := by decide +kernel
theorem dX7_between_101 : decode cX7_between 101 = .ok (.iconst 2, 1) := by decide +kernel
theorem dX7_between_102 : decode cX7_between 102 = .ok (.goto 4, 3) := by decide +kernel
theorem dX7_between_105 : decode cX7_between 105 = .ok (.iconst 0, 1) := by decide +kernel
theorem dX7_between_106 : decode cX7_between 106 = .ok (.iadd, 1) := by decide +kernel
theorem dX7_between_107 : decode cX7_between 107 = .ok (.ireturn, 1) := by decide +kernel
theorem dX7_total_0 : decode cX7_total 0 = .ok (.aload_n 0, 1) := by decide +kernel
theorem dX7_total_1 : decode cX7_total 1 = .ok (.iload_n 1, 1) := by decide +kernel
theorem dX7_total_2 : decode cX7_total 2 = .ok (.iload_n 2, 1) := by decide +kernel
theorem dX7_total_3 : decode cX7_total 3 = .ok (.invokevirtual 142, 3) := by decide +kernel
theorem dX7_total_6 : decode cX7_total 6 = .ok (.istore 4, 2) := by decide +kernel
theorem dX7_total_8 : decode cX7_total 8 = .ok (.iload 4, 2) := by decide +kernel
theorem dX7_total_10 : decode cX7_total 10 = .ok (.ifCond .ne 15, 3) := by decide +kernel
theorem dX7_total_13 : decode cX7_total 13 = .ok (.aload_n 0, 1) := by decide +kernel
theorem dX7_total_14 : decode cX7_total 14 = .ok (.iload_n 1, 1) := by decide +kernel
theorem dX7_total_15 : decode cX7_total 15 = .ok (.iload_n 3, 1) := by decide +kernel
theorem dX7_total_16 : decode cX7_total 16 = .ok (.invokevirtual 163, 3) := by decide +kernel
theorem dX7_total_19 : decode cX7_total 19 = .ok (.ifCond .eq 6, 3) := by decide +kernel
theorem dX7_total_22 : decode cX7_total 22 = .ok (.iconst 2, 1) := by decide +kernel
theorem dX7_total_23 : decode cX7_total 23 = .ok (.istore 4, 2) := by decide +kernel
theorem dX7_total_25 : decode cX7_total 25 = .ok (.iload 4, 2) := by decide +kernel
theorem dX7_total_27 : decode cX7_total 27 = .ok (.ifCond .le 10, 3) := by decide +kernel
theorem dX7_total_30 : decode cX7_total 30 = .ok (.aload_n 0, 1) := by decide +kernel
theorem dX7_total_31 : decode cX7_total 31 = .ok (.iload 4, 2) := by decide +kernel
theorem dX7_total_33 : decode cX7_total 33 = .ok (.invokevirtual 139, 3) := by decide +kernel
theorem dX7_total_36 : decode cX7_total 36 = .ok (.ireturn, 1) := by decide +kernel
theorem dX7_total_37 : decode cX7_total 37 = .ok (.aload_n 0, 1) := by decide +kernel
theorem dX7_total_38 : decode cX7_total 38 = .ok (.iconst 0, 1) := by decide +kernel
theorem dX7_total_39 : decode cX7_total 39 = .ok (.putfield 75, 3) := by decide +kernel
theorem dX7_total_42 : decode cX7_total 42 = .ok (.aload_n 0, 1) := by decide +kernel
theorem dX7_total_43 : decode cX7_total 43 = .ok (.aload_n 0, 1) := by decide +kernel
theorem dX7_total_44 : decode cX7_total 44 = .ok (.getfield 51, 3) := by decide +kernel
theorem dX7_total_47 : decode cX7_total 47 = .ok (.iload_n 1, 1) := by decide +kernel
theorem dX7_total_48 : decode cX7_total 48 = .ok (.iaload, 1) := by decide +kernel
theorem dX7_total_49 : decode cX7_total 49 = .ok (.aload_n 0, 1) := by decide +kernel
theorem dX7_total_50 : decode cX7_total 50 = .ok (.iload_n 1, 1) := by decide +kernel
theorem dX7_total_51 : decode cX7_total 51 = .ok (.iload_n 2, 1) := by decide +kernel
theorem dX7_total_52 : decode cX7_total 52 = .ok (.invokevirtual 155, 3) := by decide +kernel
theorem dX7_total_55 : decode cX7_total 55 = .ok (.aload_n 0, 1) := by decide +kernel
theorem dX7_total_56 : decode cX7_total 56 = .ok (.iload_n 1, 1) := by decide +kernel
theorem dX7_total_57 : decode cX7_total 57 = .ok (.iload_n 3, 1) := by decide +kernel
theorem dX7_total_58 : decode cX7_total 58 = .ok (.invokevirtual 155, 3) := by decide +kernel
theorem dX7_total_61 : decode cX7_total 61 = .ok (.invokevirtual 171, 3) := by decide +kernel
theorem dX7_total_64 : decode cX7_total 64 = .ok (.ireturn, 1) := by decide +kernel
theorem dX7_behind_0 : decode cX7_behind 0 = .ok (.iload_n 2, 1) := by decide +kernel
theorem dX7_behind_1 : decode cX7_behind 1 = .ok (.iconst 2, 1) := by decide +kernel
theorem dX7_behind_2 : decode cX7_behind 2 = .ok (.if_icmp .ne 58, 3) := by decide +kernel
theorem dX7_behind_5 : decode cX7_behind 5 = .ok (.aload_n 0, 1) := by decide +kernel
theorem dX7_behind_6 : decode cX7_behind 6 = .ok (.iload_n 1, 1) := by decide +kernel
theorem dX7_behind_7 : decode cX7_behind 7 = .ok (.aload_n 0, 1) := by decide +kernel
theorem dX7_behind_8 : decode cX7_behind 8 = .ok (.iload_n 1, 1) := by decide +kernel
theorem dX7_behind_9 : decode cX7_behind 9 = .ok (.lload_n 3, 1) := by decide +kernel
theorem dX7_behind_10 : decode cX7_behind 10 = .ok (.invokevirtual 98, 3) := by decide +kernel
theorem dX7_behind_13 : decode cX7_behind 13 = .ok (.ifCond .eq 7, 3) := by decide +kernel
theorem dX7_behind_16 : decode cX7_behind 16 = .ok (.lload_n 3, 1) := by decide +kernel
theorem dX7_behind_17 : decode cX7_behind 17 = .ok (.goto 9, 3) := by decide +kernel
theorem dX7_behind_20 : decode cX7_behind 20 = .ok (.aload_n 0, 1) := by decide +kernel
theorem dX7_behind_21 : decode cX7_behind 21 = .ok (.iload_n 1, 1) := by decide +kernel
theorem dX7_behind_22 : decode cX7_behind 22 = .ok (.lload_n 3, 1) := by decide +kernel
theorem dX7_behind_23 : decode cX7_behind 23 = .ok (.invokevirtual 94, 3) := by decide +kernel
theorem dX7_behind_26 : decode cX7_behind 26 = .ok (.aload_n 0, 1) := by decide +kernel
theorem dX7_behind_27 : decode cX7_behind 27 = .ok (.iload_n 1, 1) := by decide +kernel
theorem dX7_behind_28 : decode cX7_behind 28 = .ok (.lload 5, 2) := by decide +kernel
theorem dX7_behind_30 : decode cX7_behind 30 = .ok (.invokevirtual 98, 3) := by decide +kernel
theorem dX7_behind_33 : decode cX7_behind 33 = .ok (.ifCond .eq 8, 3) := by decide +kernel
theorem dX7_behind_36 : decode cX7_behind 36 = .ok (.lload 5, 2) := by decide +kernel
theorem dX7_behind_38 : decode cX7_behind 38 = .ok (.goto 10, 3) := by decide +kernel
theorem dX7_behind_41 : decode cX7_behind 41 = .ok (.aload_n 0, 1) := by decide +kernel
theorem dX7_behind_42 : decode cX7_behind 42 = .ok (.iload_n 1, 1) := by decide +kernel
theorem dX7_behind_43 : decode cX7_behind 43 = .ok (.lload 5, 2) := by decide +kernel
theorem dX7_behind_45 : decode cX7_behind 45 = .ok (.invokevirtual 94, 3) := by decide +kernel
theorem dX7_behind_48 : decode cX7_behind 48 = .ok (.invokevirtual 171, 3) := by decide +kernel
theorem dX7_behind_51 : decode cX7_behind 51 = .ok (.ifCond .le 7, 3) := by decide +kernel
theorem dX7_behind_54 : decode cX7_behind 54 = .ok (.iconst 1, 1) := by decide +kernel
theorem dX7_behind_55 : decode cX7_behind 55 = .ok (.goto 4, 3) := by decide +kernel
theorem dX7_behind_58 : decode cX7_behind 58 = .ok (.iconst 0, 1) := by decide +kernel
theorem dX7_behind_59 : decode cX7_behind 59 = .ok (.ireturn, 1) := by decide +kernel
theorem dX7_behind_60 : decode cX7_behind 60 = .ok (.iload_n 2, 1) := by decide +kernel
theorem dX7_behind_61 : decode cX7_behind 61 = .ok (.ifCond .ne 22, 3) := by decide +kernel
theorem dX7_behind_64 : decode cX7_behind 64 = .ok (.aload_n 0, 1) := by decide +kernel
theorem dX7_behind_65 : decode cX7_behind 65 = .ok (.iload_n 1, 1) := by decide +kernel
theorem dX7_behind_66 : decode cX7_behind 66 = .ok (.lload_n 3, 1) := by decide +kernel
theorem dX7_behind_67 : decode cX7_behind 67 = .ok (.lload 5, 2) := by decide +kernel
theorem dX7_behind_69 : decode cX7_behind 69 = .ok (.invokevirtual 171, 3) := by decide +kernel
theorem dX7_behind_72 : decode cX7_behind 72 = .ok (.ifCond .le 7, 3) := by decide +kernel
theorem dX7_behind_75 : decode cX7_behind 75 = .ok (.iconst 1, 1) := by decide +kernel
theorem dX7_behind_76 : decode cX7_behind 76 = .ok (.goto 23, 3) := by decide +kernel
theorem dX7_behind_79 : decode cX7_behind 79 = .ok (.iconst 0, 1) := by decide +kernel
theorem dX7_behind_80 : decode cX7_behind 80 = .ok (.goto 19, 3) := by decide +kernel
theorem dX7_behind_83 : decode cX7_behind 83 = .ok (.aload_n 0, 1) := by decide +kernel
theorem dX7_behind_84 : decode cX7_behind 84 = .ok (.iload_n 1, 1) := by decide +kernel
theorem dX7_behind_85 : decode cX7_behind 85 = .ok (.lload_n 3, 1) := by decide +kernel
theorem dX7_behind_86 : decode cX7_behind 86 = .ok (.lload 5, 2) := by decide +kernel
theorem dX7_behind_88 : decode cX7_behind 88 = .ok (.invokevirtual 171, 3) := by decide +kernel
theorem dX7_behind_91 : decode cX7_behind 91 = .ok (.ifCond .ge 7, 3) := by decide +kernel
theorem dX7_behind_94 : decode cX7_behind 94 = .ok (.iconst 1, 1) := by decide +kernel
theorem dX7_behind_95 : decode cX7_behind 95 = .ok (.goto 4, 3) := by decide +kernel
theorem dX7_behind_98 : decode cX7_behind 98 = .ok (.iconst 0, 1) := by decide +kernel
theorem dX7_behind_99 : decode cX7_behind 99 = .ok (.ireturn, 1) := by decide +kernel
theorem dX7_sort_0 : decode cX7_sort 0 = .ok (.iload_n 1, 1) := by decide +kernel
theorem dX7_sort_1 : decode cX7_sort 1 = .ok (.ifCond .lt 11, 3) := by decide +kernel
theorem dX7_sort_4 : decode cX7_sort 4 = .ok (.iload_n 1, 1) := by decide +kernel
theorem dX7_sort_5 : decode cX7_sort 5 = .ok (.aload_n 0, 1) := by decide +kernel
theorem dX7_sort_6 : decode cX7_sort 6 = .ok (.getfield 79, 3) := by decide +kernel
theorem dX7_sort_9 : decode cX7_sort 9 = .ok (.if_icmp .lt 7, 3) := by decide +kernel
theorem dX7_sort_12 : decode cX7_sort 12 = .ok (.iconst 1, 1) := by decide +kernel
theorem dX7_sort_13 : decode cX7_sort 13 = .ok (.goto 17, 3) := by decide +kernel
theorem dX7_sort_16 : decode cX7_sort 16 = .ok (.iload_n 2, 1) := by decide +kernel
theorem dX7_sort_17 : decode cX7_sort 17 = .ok (.ifCond .lt 8, 3) := by decide +kernel
theorem dX7_sort_20 : decode cX7_sort 20 = .ok (.iload_n 2, 1) := by decide +kernel
theorem dX7_sort_21 : decode cX7_sort 21 = .ok (.iconst 2, 1) := by decide +kernel
theorem dX7_sort_22 : decode cX7_sort 22 = .ok (.if_icmp .le 7, 3) := by decide +kernel
theorem dX7_sort_25 : decode cX7_sort 25 = .ok (.iconst 2, 1) := by decide +kernel
theorem dX7_sort_26 : decode cX7_sort 26 = .ok (.goto 4, 3) := by decide +kernel
theorem dX7_sort_29 : decode cX7_sort 29 = .ok (.iconst 0, 1) := by decide +kernel
theorem dX7_sort_30 : decode cX7_sort 30 = .ok (.istore_n 3, 1) := by decide +kernel
theorem dX7_sort_31 : decode cX7_sort 31 = .ok (.iload_n 3, 1) := by decide +kernel
theorem dX7_sort_32 : decode cX7_sort 32 = .ok (.ifCond .le 9, 3) := by decide +kernel
theorem dX7_sort_35 : decode cX7_sort 35 = .ok (.aload_n 0, 1) := by decide +kernel
theorem dX7_sort_36 : decode cX7_sort 36 = .ok (.iload_n 3, 1) := by decide +kernel
theorem dX7_sort_37 : decode cX7_sort 37 = .ok (.invokevirtual 139, 3) := by decide +kernel
theorem dX7_sort_40 : decode cX7_sort 40 = .ok (.ireturn, 1) := by decide +kernel
theorem dX7_sort_41 : decode cX7_sort 41 = .ok (.aload_n 0, 1) := by decide +kernel
theorem dX7_sort_42 : decode cX7_sort 42 = .ok (.iconst 0, 1) := by decide +kernel
theorem dX7_sort_43 : decode cX7_sort 43 = .ok (.putfield 75, 3) := by decide +kernel
theorem dX7_sort_46 : decode cX7_sort 46 = .ok (.aload_n 0, 1) := by decide +kernel
theorem dX7_sort_47 : decode cX7_sort 47 = .ok (.iload_n 1, 1) := by decide +kernel
theorem dX7_sort_48 : decode cX7_sort 48 = .ok (.invokevirtual 82, 3) := by decide +kernel
theorem dX7_sort_51 : decode cX7_sort 51 = .ok (.istore 4, 2) := by decide +kernel
theorem dX7_sort_53 : decode cX7_sort 53 = .ok (.aload_n 0, 1) := by decide +kernel
theorem dX7_sort_54 : decode cX7_sort 54 = .ok (.getfield 51, 3) := by decide +kernel
theorem dX7_sort_57 : decode cX7_sort 57 = .ok (.iload_n 1, 1) := by decide +kernel
theorem dX7_sort_58 : decode cX7_sort 58 = .ok (.iaload, 1) := by decide +kernel
theorem dX7_sort_59 : decode cX7_sort 59 = .ok (.istore 5, 2) := by decide +kernel
theorem dX7_sort_61 : decode cX7_sort 61 = .ok (.iconst 0, 1) := by decide +kernel
theorem dX7_sort_62 : decode cX7_sort 62 = .ok (.istore 6, 2) := by decide +kernel
theorem dX7_sort_64 : decode cX7_sort 64 = .ok (.iload 6, 2) := by decide +kernel
theorem dX7_sort_66 : decode cX7_sort 66 = .ok (.iload 4, 2) := by decide +kernel
theorem dX7_sort_68 : decode cX7_sort 68 = .ok (.if_icmp .ge 23, 3) := by decide +kernel
theorem dX7_sort_71 : decode cX7_sort 71 = .ok (.aload_n 0, 1) := by decide +kernel
theorem dX7_sort_72 : decode cX7_sort 72 = .ok (.getfield 57, 3) := by decide +kernel
theorem dX7_sort_75 : decode cX7_sort 75 = .ok (.iload 6, 2) := by decide +kernel
theorem dX7_sort_77 : decode cX7_sort 77 = .ok (.aload_n 0, 1) := by decide +kernel
theorem dX7_sort_78 : decode cX7_sort 78 = .ok (.iload_n 1, 1) := by decide +kernel
theorem dX7_sort_79 : decode cX7_sort 79 = .ok (.iload 6, 2) := by decide +kernel
theorem dX7_sort_81 : decode cX7_sort 81 = .ok (.invokevirtual 155, 3) := by decide +kernel
theorem dX7_sort_84 : decode cX7_sort 84 = .ok (.lastore, 1) := by decide +kernel
theorem dX7_sort_85 : decode cX7_sort 85 = .ok (.iinc 6 1, 3) := by decide +kernel
theorem dX7_sort_88 : decode cX7_sort 88 = .ok (.goto (-24), 3) := by decide +kernel
theorem dX7_sort_91 : decode cX7_sort 91 = .ok (.iconst 1, 1) := by decide +kernel
theorem dX7_sort_92 : decode cX7_sort 92 = .ok (.istore 6, 2) := by decide +kernel
theorem dX7_sort_94 : decode cX7_sort 94 = .ok (.iload 6, 2) := by decide +kernel
theorem dX7_sort_96 : decode cX7_sort 96 = .ok (.iload 4, 2) := by decide +kernel
theorem dX7_sort_98 : decode cX7_sort 98 = .ok (.if_icmp .ge 117, 3) := by decide +kernel
theorem dX7_sort_101 : decode cX7_sort 101 = .ok (.iconst 0, 1) := by decide +kernel
theorem dX7_sort_102 : decode cX7_sort 102 = .ok (.istore 7, 2) := by decide +kernel
theorem dX7_sort_104 : decode cX7_sort 104 = .ok (.iload 7, 2) := by decide +kernel
theorem dX7_sort_106 : decode cX7_sort 106 = .ok (.iload 4, 2) := by decide +kernel
theorem dX7_sort_108 : decode cX7_sort 108 = .ok (.if_icmp .ge 68, 3) := by decide +kernel
theorem dX7_sort_111 : decode cX7_sort 111 = .ok (.aload_n 0, 1) := by decide +kernel
theorem dX7_sort_112 : decode cX7_sort 112 = .ok (.iload 5, 2) := by decide +kernel
theorem dX7_sort_114 : decode cX7_sort 114 = .ok (.iload_n 2, 1) := by decide +kernel
theorem dX7_sort_115 : decode cX7_sort 115 = .ok (.iload 7, 2) := by decide +kernel
theorem dX7_sort_117 : decode cX7_sort 117 = .ok (.iload 7, 2) := by decide +kernel
theorem dX7_sort_119 : decode cX7_sort 119 = .ok (.iload 6, 2) := by decide +kernel
theorem dX7_sort_121 : decode cX7_sort 121 = .ok (.iadd, 1) := by decide +kernel
theorem dX7_sort_122 : decode cX7_sort 122 = .ok (.iload 4, 2) := by decide +kernel
theorem dX7_sort_124 : decode cX7_sort 124 = .ok (.if_icmp .ge 11, 3) := by decide +kernel
theorem dX7_sort_127 : decode cX7_sort 127 = .ok (.iload 7, 2) := by decide +kernel
theorem dX7_sort_129 : decode cX7_sort 129 = .ok (.iload 6, 2) := by decide +kernel
theorem dX7_sort_131 : decode cX7_sort 131 = .ok (.iadd, 1) := by decide +kernel
theorem dX7_sort_132 : decode cX7_sort 132 = .ok (.goto 5, 3) := by decide +kernel
theorem dX7_sort_135 : decode cX7_sort 135 = .ok (.iload 4, 2) := by decide +kernel
theorem dX7_sort_137 : decode cX7_sort 137 = .ok (.iload 7, 2) := by decide +kernel
theorem dX7_sort_139 : decode cX7_sort 139 = .ok (.iconst 2, 1) := by decide +kernel
theorem dX7_sort_140 : decode cX7_sort 140 = .ok (.iload 6, 2) := by decide +kernel
theorem dX7_sort_142 : decode cX7_sort 142 = .ok (.imul, 1) := by decide +kernel
theorem dX7_sort_143 : decode cX7_sort 143 = .ok (.iadd, 1) := by decide +kernel
theorem dX7_sort_144 : decode cX7_sort 144 = .ok (.iload 4, 2) := by decide +kernel
theorem dX7_sort_146 : decode cX7_sort 146 = .ok (.if_icmp .ge 13, 3) := by decide +kernel
theorem dX7_sort_149 : decode cX7_sort 149 = .ok (.iload 7, 2) := by decide +kernel
theorem dX7_sort_151 : decode cX7_sort 151 = .ok (.iconst 2, 1) := by decide +kernel
theorem dX7_sort_152 : decode cX7_sort 152 = .ok (.iload 6, 2) := by decide +kernel
theorem dX7_sort_154 : decode cX7_sort 154 = .ok (.imul, 1) := by decide +kernel
theorem dX7_sort_155 : decode cX7_sort 155 = .ok (.iadd, 1) := by decide +kernel
theorem dX7_sort_156 : decode cX7_sort 156 = .ok (.goto 5, 3) := by decide +kernel
theorem dX7_sort_159 : decode cX7_sort 159 = .ok (.iload 4, 2) := by decide +kernel
theorem dX7_sort_161 : decode cX7_sort 161 = .ok (.invokevirtual 175, 3) := by decide +kernel
theorem dX7_sort_164 : decode cX7_sort 164 = .ok (.iload 7, 2) := by decide +kernel
theorem dX7_sort_166 : decode cX7_sort 166 = .ok (.iconst 2, 1) := by decide +kernel
theorem dX7_sort_167 : decode cX7_sort 167 = .ok (.iload 6, 2) := by decide +kernel
theorem dX7_sort_169 : decode cX7_sort 169 = .ok (.imul, 1) := by decide +kernel
theorem dX7_sort_170 : decode cX7_sort 170 = .ok (.iadd, 1) := by decide +kernel
theorem dX7_sort_171 : decode cX7_sort 171 = .ok (.istore 7, 2) := by decide +kernel
theorem dX7_sort_173 : decode cX7_sort 173 = .ok (.goto (-69), 3) := by decide +kernel
theorem dX7_sort_176 : decode cX7_sort 176 = .ok (.iconst 0, 1) := by decide +kernel
theorem dX7_sort_177 : decode cX7_sort 177 = .ok (.istore 7, 2) := by decide +kernel
theorem dX7_sort_179 : decode cX7_sort 179 = .ok (.iload 7, 2) := by decide +kernel
theorem dX7_sort_181 : decode cX7_sort 181 = .ok (.iload 4, 2) := by decide +kernel
theorem dX7_sort_183 : decode cX7_sort 183 = .ok (.if_icmp .ge 23, 3) := by decide +kernel
theorem dX7_sort_186 : decode cX7_sort 186 = .ok (.aload_n 0, 1) := by decide +kernel
theorem dX7_sort_187 : decode cX7_sort 187 = .ok (.getfield 57, 3) := by decide +kernel
theorem dX7_sort_190 : decode cX7_sort 190 = .ok (.iload 7, 2) := by decide +kernel
theorem dX7_sort_192 : decode cX7_sort 192 = .ok (.aload_n 0, 1) := by decide +kernel
theorem dX7_sort_193 : decode cX7_sort 193 = .ok (.getfield 60, 3) := by decide +kernel
theorem dX7_sort_196 : decode cX7_sort 196 = .ok (.iload 7, 2) := by decide +kernel
theorem dX7_sort_198 : decode cX7_sort 198 = .ok (.laload, 1) := by decide +kernel
theorem dX7_sort_199 : decode cX7_sort 199 = .ok (.lastore, 1) := by decide +kernel
theorem dX7_sort_200 : decode cX7_sort 200 = .ok (.iinc 7 1, 3) := by decide +kernel
theorem dX7_sort_203 : decode cX7_sort 203 = .ok (.goto (-24), 3) := by decide +kernel
theorem dX7_sort_206 : decode cX7_sort 206 = .ok (.iload 6, 2) := by decide +kernel
theorem dX7_sort_208 : decode cX7_sort 208 = .ok (.iconst 2, 1) := by decide +kernel
theorem dX7_sort_209 : decode cX7_sort 209 = .ok (.imul, 1) := by decide +kernel
theorem dX7_sort_210 : decode cX7_sort 210 = .ok (.istore 6, 2) := by decide +kernel
theorem dX7_sort_212 : decode cX7_sort 212 = .ok (.goto (-118), 3) := by decide +kernel
theorem dX7_sort_215 : decode cX7_sort 215 = .ok (.iconst 0, 1) := by decide +kernel
theorem dX7_sort_216 : decode cX7_sort 216 = .ok (.istore 6, 2) := by decide +kernel
theorem dX7_sort_218 : decode cX7_sort 218 = .ok (.iconst 0, 1) := by decide +kernel
theorem dX7_sort_219 : decode cX7_sort 219 = .ok (.istore 7, 2) := by decide +kernel
theorem dX7_sort_221 : decode cX7_sort 221 = .ok (.iload 7, 2) := by decide +kernel
theorem dX7_sort_223 : decode cX7_sort 223 = .ok (.iload 4, 2) := by decide +kernel
theorem dX7_sort_225 : decode cX7_sort 225 = .ok (.if_icmp .ge 51, 3) := by decide +kernel
theorem dX7_sort_228 : decode cX7_sort 228 = .ok (.aload_n 0, 1) := by decide +kernel
theorem dX7_sort_229 : decode cX7_sort 229 = .ok (.getfield 57, 3) := by decide +kernel
theorem dX7_sort_232 : decode cX7_sort 232 = .ok (.iload 7, 2) := by decide +kernel
theorem dX7_sort_234 : decode cX7_sort 234 = .ok (.laload, 1) := by decide +kernel
theorem dX7_sort_235 : decode cX7_sort 235 = .ok (.aload_n 0, 1) := by decide +kernel
theorem dX7_sort_236 : decode cX7_sort 236 = .ok (.iload_n 1, 1) := by decide +kernel
theorem dX7_sort_237 : decode cX7_sort 237 = .ok (.iload 7, 2) := by decide +kernel
theorem dX7_sort_239 : decode cX7_sort 239 = .ok (.invokevirtual 155, 3) := by decide +kernel
theorem dX7_sort_242 : decode cX7_sort 242 = .ok (.lcmp, 1) := by decide +kernel
theorem dX7_sort_243 : decode cX7_sort 243 = .ok (.ifCond .eq 6, 3) := by decide +kernel
theorem dX7_sort_246 : decode cX7_sort 246 = .ok (.iinc 6 1, 3) := by decide +kernel
theorem dX7_sort_249 : decode cX7_sort 249 = .ok (.aload_n 0, 1) := by decide +kernel
theorem dX7_sort_250 : decode cX7_sort 250 = .ok (.getfield 54, 3) := by decide +kernel
theorem dX7_sort_253 : decode cX7_sort 253 = .ok (.aload_n 0, 1) := by decide +kernel
theorem dX7_sort_254 : decode cX7_sort 254 = .ok (.getfield 48, 3) := by decide +kernel
theorem dX7_sort_257 : decode cX7_sort 257 = .ok (.iload_n 1, 1) := by decide +kernel
theorem dX7_sort_258 : decode cX7_sort 258 = .ok (.iaload, 1) := by decide +kernel
theorem dX7_sort_259 : decode cX7_sort 259 = .ok (.iload 7, 2) := by decide +kernel
theorem dX7_sort_261 : decode cX7_sort 261 = .ok (.iadd, 1) := by decide +kernel
theorem dX7_sort_262 : decode cX7_sort 262 = .ok (.aload_n 0, 1) := by decide +kernel
theorem dX7_sort_263 : decode cX7_sort 263 = .ok (.getfield 57, 3) := by decide +kernel
theorem dX7_sort_266 : decode cX7_sort 266 = .ok (.iload 7, 2) := by decide +kernel
theorem dX7_sort_268 : decode cX7_sort 268 = .ok (.laload, 1) := by decide +kernel
theorem dX7_sort_269 : decode cX7_sort 269 = .ok (.lastore, 1) := by decide +kernel
theorem dX7_sort_270 : decode cX7_sort 270 = .ok (.iinc 7 1, 3) := by decide +kernel
theorem dX7_sort_273 : decode cX7_sort 273 = .ok (.goto (-52), 3) := by decide +kernel
theorem dX7_sort_276 : decode cX7_sort 276 = .ok (.iload 6, 2) := by decide +kernel
theorem dX7_sort_278 : decode cX7_sort 278 = .ok (.ireturn, 1) := by decide +kernel
theorem dX7_merge_0 : decode cX7_merge 0 = .ok (.iload_n 3, 1) := by decide +kernel
theorem dX7_merge_1 : decode cX7_merge 1 = .ok (.istore 6, 2) := by decide +kernel
theorem dX7_merge_3 : decode cX7_merge 3 = .ok (.iload 4, 2) := by decide +kernel
theorem dX7_merge_5 : decode cX7_merge 5 = .ok (.istore 7, 2) := by decide +kernel
theorem dX7_merge_7 : decode cX7_merge 7 = .ok (.iload_n 3, 1) := by decide +kernel
theorem dX7_merge_8 : decode cX7_merge 8 = .ok (.istore 8, 2) := by decide +kernel
theorem dX7_merge_10 : decode cX7_merge 10 = .ok (.iload 8, 2) := by decide +kernel
theorem dX7_merge_12 : decode cX7_merge 12 = .ok (.iload 5, 2) := by decide +kernel
theorem dX7_merge_14 : decode cX7_merge 14 = .ok (.if_icmp .ge 96, 3) := by decide +kernel
theorem dX7_merge_17 : decode cX7_merge 17 = .ok (.iload 6, 2) := by decide +kernel
theorem dX7_merge_19 : decode cX7_merge 19 = .ok (.iload 4, 2) := by decide +kernel
theorem dX7_merge_21 : decode cX7_merge 21 = .ok (.if_icmp .eq 33, 3) := by decide +kernel
theorem dX7_merge_24 : decode cX7_merge 24 = .ok (.iload 7, 2) := by decide +kernel
theorem dX7_merge_26 : decode cX7_merge 26 = .ok (.iload 5, 2) := by decide +kernel
theorem dX7_merge_28 : decode cX7_merge 28 = .ok (.if_icmp .ge 30, 3) := by decide +kernel
theorem dX7_merge_31 : decode cX7_merge 31 = .ok (.aload_n 0, 1) := by decide +kernel
theorem dX7_merge_32 : decode cX7_merge 32 = .ok (.iload_n 1, 1) := by decide +kernel
theorem dX7_merge_33 : decode cX7_merge 33 = .ok (.iload_n 2, 1) := by decide +kernel
theorem dX7_merge_34 : decode cX7_merge 34 = .ok (.aload_n 0, 1) := by decide +kernel
theorem dX7_merge_35 : decode cX7_merge 35 = .ok (.getfield 57, 3) := by decide +kernel
theorem dX7_merge_38 : decode cX7_merge 38 = .ok (.iload 6, 2) := by decide +kernel
theorem dX7_merge_40 : decode cX7_merge 40 = .ok (.laload, 1) := by decide +kernel
theorem dX7_merge_41 : decode cX7_merge 41 = .ok (.aload_n 0, 1) := by decide +kernel
theorem dX7_merge_42 : decode cX7_merge 42 = .ok (.getfield 57, 3) := by decide +kernel
theorem dX7_merge_45 : decode cX7_merge 45 = .ok (.iload 7, 2) := by decide +kernel
theorem dX7_merge_47 : decode cX7_merge 47 = .ok (.laload, 1) := by decide +kernel
theorem dX7_merge_48 : decode cX7_merge 48 = .ok (.invokevirtual 179, 3) := by decide +kernel
theorem dX7_merge_51 : decode cX7_merge 51 = .ok (.ifCond .eq 7, 3) := by decide +kernel
theorem dX7_merge_54 : decode cX7_merge 54 = .ok (.iconst 1, 1) := by decide +kernel
theorem dX7_merge_55 : decode cX7_merge 55 = .ok (.goto 4, 3) := by decide +kernel
theorem dX7_merge_58 : decode cX7_merge 58 = .ok (.iconst 0, 1) := by decide +kernel
theorem dX7_merge_59 : decode cX7_merge 59 = .ok (.istore 9, 2) := by decide +kernel
theorem dX7_merge_61 : decode cX7_merge 61 = .ok (.aload_n 0, 1) := by decide +kernel
theorem dX7_merge_62 : decode cX7_merge 62 = .ok (.getfield 60, 3) := by decide +kernel
theorem dX7_merge_65 : decode cX7_merge 65 = .ok (.iload 8, 2) := by decide +kernel
theorem dX7_merge_67 : decode cX7_merge 67 = .ok (.iload 9, 2) := by decide +kernel
theorem dX7_merge_69 : decode cX7_merge 69 = .ok (.ifCond .eq 13, 3) := by decide +kernel
theorem dX7_merge_72 : decode cX7_merge 72 = .ok (.aload_n 0, 1) := by decide +kernel
theorem dX7_merge_73 : decode cX7_merge 73 = .ok (.getfield 57, 3) := by decide +kernel
theorem dX7_merge_76 : decode cX7_merge 76 = .ok (.iload 7, 2) := by decide +kernel
theorem dX7_merge_78 : decode cX7_merge 78 = .ok (.laload, 1) := by decide +kernel
theorem dX7_merge_79 : decode cX7_merge 79 = .ok (.goto 10, 3) := by decide +kernel
theorem dX7_merge_82 : decode cX7_merge 82 = .ok (.aload_n 0, 1) := by decide +kernel
theorem dX7_merge_83 : decode cX7_merge 83 = .ok (.getfield 57, 3) := by decide +kernel
theorem dX7_merge_86 : decode cX7_merge 86 = .ok (.iload 6, 2) := by decide +kernel
theorem dX7_merge_88 : decode cX7_merge 88 = .ok (.laload, 1) := by decide +kernel
theorem dX7_merge_89 : decode cX7_merge 89 = .ok (.lastore, 1) := by decide +kernel
theorem dX7_merge_90 : decode cX7_merge 90 = .ok (.iload 9, 2) := by decide +kernel
theorem dX7_merge_92 : decode cX7_merge 92 = .ok (.ifCond .eq 9, 3) := by decide +kernel
theorem dX7_merge_95 : decode cX7_merge 95 = .ok (.iinc 7 1, 3) := by decide +kernel
theorem dX7_merge_98 : decode cX7_merge 98 = .ok (.goto 6, 3) := by decide +kernel
theorem dX7_merge_101 : decode cX7_merge 101 = .ok (.iinc 6 1, 3) := by decide +kernel
theorem dX7_merge_104 : decode cX7_merge 104 = .ok (.iinc 8 1, 3) := by decide +kernel
theorem dX7_merge_107 : decode cX7_merge 107 = .ok (.goto (-97), 3) := by decide +kernel
theorem dX7_merge_110 : decode cX7_merge 110 = .ok (.return_, 1) := by decide +kernel
theorem dX7_act_0 : decode cX7_act 0 = .ok (.aload_n 0, 1) := by decide +kernel
theorem dX7_act_1 : decode cX7_act 1 = .ok (.iload_n 1, 1) := by decide +kernel
theorem dX7_act_2 : decode cX7_act 2 = .ok (.iload_n 3, 1) := by decide +kernel
theorem dX7_act_3 : decode cX7_act 3 = .ok (.invokevirtual 142, 3) := by decide +kernel
theorem dX7_act_6 : decode cX7_act 6 = .ok (.istore 6, 2) := by decide +kernel
theorem dX7_act_8 : decode cX7_act 8 = .ok (.iload 6, 2) := by decide +kernel
theorem dX7_act_10 : decode cX7_act 10 = .ok (.ifCond .ne 36, 3) := by decide +kernel
theorem dX7_act_13 : decode cX7_act 13 = .ok (.iload_n 2, 1) := by decide +kernel
theorem dX7_act_14 : decode cX7_act 14 = .ok (.ifCond .lt 29, 3) := by decide +kernel
theorem dX7_act_17 : decode cX7_act 17 = .ok (.iload_n 2, 1) := by decide +kernel
theorem dX7_act_18 : decode cX7_act 18 = .ok (.bipush 13, 2) := by decide +kernel
theorem dX7_act_20 : decode cX7_act 20 = .ok (.if_icmp .gt 23, 3) := by decide +kernel
theorem dX7_act_23 : decode cX7_act 23 = .ok (.aload_n 0, 1) := by decide +kernel
theorem dX7_act_24 : decode cX7_act 24 = .ok (.iload_n 1, 1) := by decide +kernel
theorem dX7_act_25 : decode cX7_act 25 = .ok (.iload 4, 2) := by decide +kernel
theorem dX7_act_27 : decode cX7_act 27 = .ok (.invokevirtual 163, 3) := by decide +kernel
theorem dX7_act_30 : decode cX7_act 30 = .ok (.ifCond .ne 13, 3) := by decide +kernel
theorem dX7_act_33 : decode cX7_act 33 = .ok (.aload_n 0, 1) := by decide +kernel
theorem dX7_act_34 : decode cX7_act 34 = .ok (.iload_n 1, 1) := by decide +kernel
theorem dX7_act_35 : decode cX7_act 35 = .ok (.iload 5, 2) := by decide +kernel
theorem dX7_act_37 : decode cX7_act 37 = .ok (.invokevirtual 163, 3) := by decide +kernel
theorem dX7_act_40 : decode cX7_act 40 = .ok (.ifCond .eq 6, 3) := by decide +kernel
theorem dX7_act_43 : decode cX7_act 43 = .ok (.iconst 2, 1) := by decide +kernel
theorem dX7_act_44 : decode cX7_act 44 = .ok (.istore 6, 2) := by decide +kernel
theorem dX7_act_46 : decode cX7_act 46 = .ok (.iload 6, 2) := by decide +kernel
theorem dX7_act_48 : decode cX7_act 48 = .ok (.ifCond .le 10, 3) := by decide +kernel
theorem dX7_act_51 : decode cX7_act 51 = .ok (.aload_n 0, 1) := by decide +kernel
theorem dX7_act_52 : decode cX7_act 52 = .ok (.iload 6, 2) := by decide +kernel
theorem dX7_act_54 : decode cX7_act 54 = .ok (.invokevirtual 139, 3) := by decide +kernel
theorem dX7_act_57 : decode cX7_act 57 = .ok (.ireturn, 1) := by decide +kernel
theorem dX7_act_58 : decode cX7_act 58 = .ok (.aload_n 0, 1) := by decide +kernel
theorem dX7_act_59 : decode cX7_act 59 = .ok (.iconst 0, 1) := by decide +kernel
theorem dX7_act_60 : decode cX7_act 60 = .ok (.putfield 75, 3) := by decide +kernel
theorem dX7_act_63 : decode cX7_act 63 = .ok (.aload_n 0, 1) := by decide +kernel
theorem dX7_act_64 : decode cX7_act 64 = .ok (.iload_n 1, 1) := by decide +kernel
theorem dX7_act_65 : decode cX7_act 65 = .ok (.iload 5, 2) := by decide +kernel
theorem dX7_act_67 : decode cX7_act 67 = .ok (.aload_n 0, 1) := by decide +kernel
theorem dX7_act_68 : decode cX7_act 68 = .ok (.aload_n 0, 1) := by decide +kernel
theorem dX7_act_69 : decode cX7_act 69 = .ok (.getfield 51, 3) := by decide +kernel
theorem dX7_act_72 : decode cX7_act 72 = .ok (.iload_n 1, 1) := by decide +kernel
theorem dX7_act_73 : decode cX7_act 73 = .ok (.iaload, 1) := by decide +kernel
theorem dX7_act_74 : decode cX7_act 74 = .ok (.iload_n 2, 1) := by decide +kernel
theorem dX7_act_75 : decode cX7_act 75 = .ok (.aload_n 0, 1) := by decide +kernel
theorem dX7_act_76 : decode cX7_act 76 = .ok (.iload_n 1, 1) := by decide +kernel
theorem dX7_act_77 : decode cX7_act 77 = .ok (.iload_n 3, 1) := by decide +kernel
theorem dX7_act_78 : decode cX7_act 78 = .ok (.invokevirtual 155, 3) := by decide +kernel
theorem dX7_act_81 : decode cX7_act 81 = .ok (.aload_n 0, 1) := by decide +kernel
theorem dX7_act_82 : decode cX7_act 82 = .ok (.iload_n 1, 1) := by decide +kernel
theorem dX7_act_83 : decode cX7_act 83 = .ok (.iload 4, 2) := by decide +kernel
theorem dX7_act_85 : decode cX7_act 85 = .ok (.invokevirtual 155, 3) := by decide +kernel
theorem dX7_act_88 : decode cX7_act 88 = .ok (.invokevirtual 183, 3) := by decide +kernel
theorem dX7_act_91 : decode cX7_act 91 = .ok (.invokevirtual 149, 3) := by decide +kernel
theorem dX7_act_94 : decode cX7_act 94 = .ok (.ireturn, 1) := by decide +kernel
theorem dX7_result_0 : decode cX7_result 0 = .ok (.iload_n 2, 1) := by decide +kernel
theorem dX7_result_1 : decode cX7_result 1 = .ok (.tableswitch 245 0 12 #[67, 87, 96, 105, 105, 105, 113, 153, 195, 204, 218, 227, 236], 67) := by decide +kernel
theorem dX7_result_68 : decode cX7_result 68 = .ok (.aload_n 0, 1) := by decide +kernel
theorem dX7_result_69 : decode cX7_result 69 = .ok (.iload_n 1, 1) := by decide +kernel
theorem dX7_result_70 : decode cX7_result 70 = .ok (.lload_n 3, 1) := by decide +kernel
theorem dX7_result_71 : decode cX7_result 71 = .ok (.invokevirtual 98, 3) := by decide +kernel
theorem dX7_result_74 : decode cX7_result 74 = .ok (.ifCond .eq 7, 3) := by decide +kernel
theorem dX7_result_77 : decode cX7_result 77 = .ok (.lload_n 3, 1) := by decide +kernel
theorem dX7_result_78 : decode cX7_result 78 = .ok (.goto 9, 3) := by decide +kernel
theorem dX7_result_81 : decode cX7_result 81 = .ok (.aload_n 0, 1) := by decide +kernel
theorem dX7_result_82 : decode cX7_result 82 = .ok (.iload_n 1, 1) := by decide +kernel
theorem dX7_result_83 : decode cX7_result 83 = .ok (.lload_n 3, 1) := by decide +kernel
theorem dX7_result_84 : decode cX7_result 84 = .ok (.invokevirtual 94, 3) := by decide +kernel
theorem dX7_result_87 : decode cX7_result 87 = .ok (.lreturn, 1) := by decide +kernel
theorem dX7_result_88 : decode cX7_result 88 = .ok (.aload_n 0, 1) := by decide +kernel
theorem dX7_result_89 : decode cX7_result 89 = .ok (.iload_n 1, 1) := by decide +kernel
theorem dX7_result_90 : decode cX7_result 90 = .ok (.lload_n 3, 1) := by decide +kernel
theorem dX7_result_91 : decode cX7_result 91 = .ok (.lload 5, 2) := by decide +kernel
theorem dX7_result_93 : decode cX7_result 93 = .ok (.invokevirtual 187, 3) := by decide +kernel
theorem dX7_result_96 : decode cX7_result 96 = .ok (.lreturn, 1) := by decide +kernel
theorem dX7_result_97 : decode cX7_result 97 = .ok (.aload_n 0, 1) := by decide +kernel
theorem dX7_result_98 : decode cX7_result 98 = .ok (.iload_n 1, 1) := by decide +kernel
theorem dX7_result_99 : decode cX7_result 99 = .ok (.lload_n 3, 1) := by decide +kernel
theorem dX7_result_100 : decode cX7_result 100 = .ok (.lload 5, 2) := by decide +kernel
theorem dX7_result_102 : decode cX7_result 102 = .ok (.invokevirtual 190, 3) := by decide +kernel
theorem dX7_result_105 : decode cX7_result 105 = .ok (.lreturn, 1) := by decide +kernel
theorem dX7_result_106 : decode cX7_result 106 = .ok (.aload_n 0, 1) := by decide +kernel
theorem dX7_result_107 : decode cX7_result 107 = .ok (.iload_n 1, 1) := by decide +kernel
theorem dX7_result_108 : decode cX7_result 108 = .ok (.lload_n 3, 1) := by decide +kernel
theorem dX7_result_109 : decode cX7_result 109 = .ok (.iload_n 2, 1) := by decide +kernel
theorem dX7_result_110 : decode cX7_result 110 = .ok (.invokevirtual 193, 3) := by decide +kernel
theorem dX7_result_113 : decode cX7_result 113 = .ok (.lreturn, 1) := by decide +kernel
theorem dX7_result_114 : decode cX7_result 114 = .ok (.aload_n 0, 1) := by decide +kernel
theorem dX7_result_115 : decode cX7_result 115 = .ok (.iload_n 1, 1) := by decide +kernel
theorem dX7_result_116 : decode cX7_result 116 = .ok (.lload_n 3, 1) := by decide +kernel
theorem dX7_result_117 : decode cX7_result 117 = .ok (.invokevirtual 98, 3) := by decide +kernel
theorem dX7_result_120 : decode cX7_result 120 = .ok (.ifCond .ne 12, 3) := by decide +kernel
theorem dX7_result_123 : decode cX7_result 123 = .ok (.aload_n 0, 1) := by decide +kernel
theorem dX7_result_124 : decode cX7_result 124 = .ok (.iload_n 1, 1) := by decide +kernel
theorem dX7_result_125 : decode cX7_result 125 = .ok (.lload_n 3, 1) := by decide +kernel
theorem dX7_result_126 : decode cX7_result 126 = .ok (.invokevirtual 102, 3) := by decide +kernel
theorem dX7_result_129 : decode cX7_result 129 = .ok (.ifCond .eq 7, 3) := by decide +kernel
theorem dX7_result_132 : decode cX7_result 132 = .ok (.lload_n 3, 1) := by decide +kernel
theorem dX7_result_133 : decode cX7_result 133 = .ok (.goto 20, 3) := by decide +kernel
theorem dX7_result_136 : decode cX7_result 136 = .ok (.aload_n 0, 1) := by decide +kernel
theorem dX7_result_137 : decode cX7_result 137 = .ok (.iload_n 1, 1) := by decide +kernel
theorem dX7_result_138 : decode cX7_result 138 = .ok (.aload_n 0, 1) := by decide +kernel
theorem dX7_result_139 : decode cX7_result 139 = .ok (.getfield 45, 3) := by decide +kernel
theorem dX7_result_142 : decode cX7_result 142 = .ok (.iload_n 1, 1) := by decide +kernel
theorem dX7_result_143 : decode cX7_result 143 = .ok (.laload, 1) := by decide +kernel
theorem dX7_result_144 : decode cX7_result 144 = .ok (.aload_n 0, 1) := by decide +kernel
theorem dX7_result_145 : decode cX7_result 145 = .ok (.iload_n 1, 1) := by decide +kernel
theorem dX7_result_146 : decode cX7_result 146 = .ok (.lload_n 3, 1) := by decide +kernel
theorem dX7_result_147 : decode cX7_result 147 = .ok (.invokevirtual 108, 3) := by decide +kernel
theorem dX7_result_150 : decode cX7_result 150 = .ok (.invokevirtual 111, 3) := by decide +kernel
theorem dX7_result_153 : decode cX7_result 153 = .ok (.lreturn, 1) := by decide +kernel
theorem dX7_result_154 : decode cX7_result 154 = .ok (.aload_n 0, 1) := by decide +kernel
theorem dX7_result_155 : decode cX7_result 155 = .ok (.iload_n 1, 1) := by decide +kernel
theorem dX7_result_156 : decode cX7_result 156 = .ok (.lload_n 3, 1) := by decide +kernel
theorem dX7_result_157 : decode cX7_result 157 = .ok (.invokevirtual 98, 3) := by decide +kernel
theorem dX7_result_160 : decode cX7_result 160 = .ok (.ifCond .ne 13, 3) := by decide +kernel
theorem dX7_result_163 : decode cX7_result 163 = .ok (.aload_n 0, 1) := by decide +kernel
theorem dX7_result_164 : decode cX7_result 164 = .ok (.iload_n 1, 1) := by decide +kernel
theorem dX7_result_165 : decode cX7_result 165 = .ok (.lload 5, 2) := by decide +kernel
theorem dX7_result_167 : decode cX7_result 167 = .ok (.invokevirtual 98, 3) := by decide +kernel
theorem dX7_result_170 : decode cX7_result 170 = .ok (.ifCond .eq 12, 3) := by decide +kernel
theorem dX7_result_173 : decode cX7_result 173 = .ok (.aload_n 0, 1) := by decide +kernel
theorem dX7_result_174 : decode cX7_result 174 = .ok (.getfield 38, 3) := by decide +kernel
theorem dX7_result_177 : decode cX7_result 177 = .ok (.iload_n 1, 1) := by decide +kernel
theorem dX7_result_178 : decode cX7_result 178 = .ok (.laload, 1) := by decide +kernel
theorem dX7_result_179 : decode cX7_result 179 = .ok (.goto 16, 3) := by decide +kernel
theorem dX7_result_182 : decode cX7_result 182 = .ok (.aload_n 0, 1) := by decide +kernel
theorem dX7_result_183 : decode cX7_result 183 = .ok (.iload_n 1, 1) := by decide +kernel
theorem dX7_result_184 : decode cX7_result 184 = .ok (.lload_n 3, 1) := by decide +kernel
theorem dX7_result_185 : decode cX7_result 185 = .ok (.aload_n 0, 1) := by decide +kernel
theorem dX7_result_186 : decode cX7_result 186 = .ok (.iload_n 1, 1) := by decide +kernel
theorem dX7_result_187 : decode cX7_result 187 = .ok (.lload 5, 2) := by decide +kernel
theorem dX7_result_189 : decode cX7_result 189 = .ok (.invokevirtual 108, 3) := by decide +kernel
theorem dX7_result_192 : decode cX7_result 192 = .ok (.invokevirtual 111, 3) := by decide +kernel
theorem dX7_result_195 : decode cX7_result 195 = .ok (.lreturn, 1) := by decide +kernel
theorem dX7_result_196 : decode cX7_result 196 = .ok (.aload_n 0, 1) := by decide +kernel
theorem dX7_result_197 : decode cX7_result 197 = .ok (.iload_n 1, 1) := by decide +kernel
theorem dX7_result_198 : decode cX7_result 198 = .ok (.lload_n 3, 1) := by decide +kernel
theorem dX7_result_199 : decode cX7_result 199 = .ok (.lload 5, 2) := by decide +kernel
theorem dX7_result_201 : decode cX7_result 201 = .ok (.invokevirtual 197, 3) := by decide +kernel
theorem dX7_result_204 : decode cX7_result 204 = .ok (.lreturn, 1) := by decide +kernel
theorem dX7_result_205 : decode cX7_result 205 = .ok (.aload_n 0, 1) := by decide +kernel
theorem dX7_result_206 : decode cX7_result 206 = .ok (.iload_n 1, 1) := by decide +kernel
theorem dX7_result_207 : decode cX7_result 207 = .ok (.lload_n 3, 1) := by decide +kernel
theorem dX7_result_208 : decode cX7_result 208 = .ok (.aload_n 0, 1) := by decide +kernel
theorem dX7_result_209 : decode cX7_result 209 = .ok (.iload_n 1, 1) := by decide +kernel
theorem dX7_result_210 : decode cX7_result 210 = .ok (.lload 5, 2) := by decide +kernel
theorem dX7_result_212 : decode cX7_result 212 = .ok (.invokevirtual 200, 3) := by decide +kernel
theorem dX7_result_215 : decode cX7_result 215 = .ok (.invokevirtual 197, 3) := by decide +kernel
theorem dX7_result_218 : decode cX7_result 218 = .ok (.lreturn, 1) := by decide +kernel
theorem dX7_result_219 : decode cX7_result 219 = .ok (.aload_n 0, 1) := by decide +kernel
theorem dX7_result_220 : decode cX7_result 220 = .ok (.iload_n 1, 1) := by decide +kernel
theorem dX7_result_221 : decode cX7_result 221 = .ok (.lload_n 3, 1) := by decide +kernel
theorem dX7_result_222 : decode cX7_result 222 = .ok (.lload 5, 2) := by decide +kernel
theorem dX7_result_224 : decode cX7_result 224 = .ok (.invokevirtual 203, 3) := by decide +kernel
theorem dX7_result_227 : decode cX7_result 227 = .ok (.lreturn, 1) := by decide +kernel
theorem dX7_result_228 : decode cX7_result 228 = .ok (.aload_n 0, 1) := by decide +kernel
theorem dX7_result_229 : decode cX7_result 229 = .ok (.iload_n 1, 1) := by decide +kernel
theorem dX7_result_230 : decode cX7_result 230 = .ok (.lload_n 3, 1) := by decide +kernel
theorem dX7_result_231 : decode cX7_result 231 = .ok (.lload 5, 2) := by decide +kernel
theorem dX7_result_233 : decode cX7_result 233 = .ok (.invokevirtual 206, 3) := by decide +kernel
theorem dX7_result_236 : decode cX7_result 236 = .ok (.lreturn, 1) := by decide +kernel
theorem dX7_result_237 : decode cX7_result 237 = .ok (.aload_n 0, 1) := by decide +kernel
theorem dX7_result_238 : decode cX7_result 238 = .ok (.iload_n 1, 1) := by decide +kernel
theorem dX7_result_239 : decode cX7_result 239 = .ok (.lload_n 3, 1) := by decide +kernel
theorem dX7_result_240 : decode cX7_result 240 = .ok (.lload 5, 2) := by decide +kernel
theorem dX7_result_242 : decode cX7_result 242 = .ok (.invokevirtual 209, 3) := by decide +kernel
theorem dX7_result_245 : decode cX7_result 245 = .ok (.lreturn, 1) := by decide +kernel
theorem dX7_result_246 : decode cX7_result 246 = .ok (.aload_n 0, 1) := by decide +kernel
theorem dX7_result_247 : decode cX7_result 247 = .ok (.iload_n 1, 1) := by decide +kernel
theorem dX7_result_248 : decode cX7_result 248 = .ok (.lload_n 3, 1) := by decide +kernel
theorem dX7_result_249 : decode cX7_result 249 = .ok (.invokevirtual 200, 3) := by decide +kernel
theorem dX7_result_252 : decode cX7_result 252 = .ok (.lreturn, 1) := by decide +kernel
theorem dX7_step_0 : decode cX7_step 0 = .ok (.aload_n 0, 1) := by decide +kernel
theorem dX7_step_1 : decode cX7_step 1 = .ok (.iload_n 1, 1) := by decide +kernel
theorem dX7_step_2 : decode cX7_step 2 = .ok (.iload_n 2, 1) := by decide +kernel
theorem dX7_step_3 : decode cX7_step 3 = .ok (.invokevirtual 142, 3) := by decide +kernel
theorem dX7_step_6 : decode cX7_step 6 = .ok (.istore 4, 2) := by decide +kernel
theorem dX7_step_8 : decode cX7_step 8 = .ok (.iload 4, 2) := by decide +kernel
theorem dX7_step_10 : decode cX7_step 10 = .ok (.ifCond .ne 18, 3) := by decide +kernel
theorem dX7_step_13 : decode cX7_step 13 = .ok (.iload_n 3, 1) := by decide +kernel
theorem dX7_step_14 : decode cX7_step 14 = .ok (.ldc 212, 2) := by decide +kernel
theorem dX7_step_16 : decode cX7_step 16 = .ok (.if_icmp .lt 9, 3) := by decide +kernel
theorem dX7_step_19 : decode cX7_step 19 = .ok (.iload_n 3, 1) := by decide +kernel
theorem dX7_step_20 : decode cX7_step 20 = .ok (.ldc 213, 2) := by decide +kernel
theorem dX7_step_22 : decode cX7_step 22 = .ok (.if_icmp .le 6, 3) := by decide +kernel
theorem dX7_step_25 : decode cX7_step 25 = .ok (.iconst 2, 1) := by decide +kernel
theorem dX7_step_26 : decode cX7_step 26 = .ok (.istore 4, 2) := by decide +kernel
theorem dX7_step_28 : decode cX7_step 28 = .ok (.iload 4, 2) := by decide +kernel
theorem dX7_step_30 : decode cX7_step 30 = .ok (.ifCond .le 10, 3) := by decide +kernel
theorem dX7_step_33 : decode cX7_step 33 = .ok (.aload_n 0, 1) := by decide +kernel
theorem dX7_step_34 : decode cX7_step 34 = .ok (.iload 4, 2) := by decide +kernel
theorem dX7_step_36 : decode cX7_step 36 = .ok (.invokevirtual 139, 3) := by decide +kernel
theorem dX7_step_39 : decode cX7_step 39 = .ok (.ireturn, 1) := by decide +kernel
theorem dX7_step_40 : decode cX7_step 40 = .ok (.aload_n 0, 1) := by decide +kernel
theorem dX7_step_41 : decode cX7_step 41 = .ok (.iconst 0, 1) := by decide +kernel
theorem dX7_step_42 : decode cX7_step 42 = .ok (.putfield 75, 3) := by decide +kernel
theorem dX7_step_45 : decode cX7_step 45 = .ok (.aload_n 0, 1) := by decide +kernel
theorem dX7_step_46 : decode cX7_step 46 = .ok (.getfield 51, 3) := by decide +kernel
theorem dX7_step_49 : decode cX7_step 49 = .ok (.iload_n 1, 1) := by decide +kernel
theorem dX7_step_50 : decode cX7_step 50 = .ok (.iaload, 1) := by decide +kernel
theorem dX7_step_51 : decode cX7_step 51 = .ok (.istore 5, 2) := by decide +kernel
theorem dX7_step_53 : decode cX7_step 53 = .ok (.aload_n 0, 1) := by decide +kernel
theorem dX7_step_54 : decode cX7_step 54 = .ok (.iload_n 1, 1) := by decide +kernel
theorem dX7_step_55 : decode cX7_step 55 = .ok (.iload_n 2, 1) := by decide +kernel
theorem dX7_step_56 : decode cX7_step 56 = .ok (.invokevirtual 155, 3) := by decide +kernel
theorem dX7_step_59 : decode cX7_step 59 = .ok (.lstore 6, 2) := by decide +kernel
theorem dX7_step_61 : decode cX7_step 61 = .ok (.aload_n 0, 1) := by decide +kernel
theorem dX7_step_62 : decode cX7_step 62 = .ok (.iload 5, 2) := by decide +kernel
theorem dX7_step_64 : decode cX7_step 64 = .ok (.lload 6, 2) := by decide +kernel
theorem dX7_step_66 : decode cX7_step 66 = .ok (.invokevirtual 98, 3) := by decide +kernel
theorem dX7_step_69 : decode cX7_step 69 = .ok (.ifCond .eq 5, 3) := by decide +kernel
theorem dX7_step_72 : decode cX7_step 72 = .ok (.iconst 0, 1) := by decide +kernel
theorem dX7_step_73 : decode cX7_step 73 = .ok (.ireturn, 1) := by decide +kernel
theorem dX7_step_74 : decode cX7_step 74 = .ok (.aload_n 0, 1) := by decide +kernel
theorem dX7_step_75 : decode cX7_step 75 = .ok (.iload 5, 2) := by decide +kernel
theorem dX7_step_77 : decode cX7_step 77 = .ok (.lload 6, 2) := by decide +kernel
theorem dX7_step_79 : decode cX7_step 79 = .ok (.invokevirtual 133, 3) := by decide +kernel
theorem dX7_step_82 : decode cX7_step 82 = .ok (.lstore 8, 2) := by decide +kernel
theorem dX7_step_84 : decode cX7_step 84 = .ok (.lload 8, 2) := by decide +kernel
theorem dX7_step_86 : decode cX7_step 86 = .ok (.iload_n 3, 1) := by decide +kernel
theorem dX7_step_87 : decode cX7_step 87 = .ok (.i2l, 1) := by decide +kernel
theorem dX7_step_88 : decode cX7_step 88 = .ok (.ladd, 1) := by decide +kernel
theorem dX7_step_89 : decode cX7_step 89 = .ok (.lstore 10, 2) := by decide +kernel
theorem dX7_step_91 : decode cX7_step 91 = .ok (.lload 10, 2) := by decide +kernel
theorem dX7_step_93 : decode cX7_step 93 = .ok (.aload_n 0, 1) := by decide +kernel
theorem dX7_step_94 : decode cX7_step 94 = .ok (.getfield 31, 3) := by decide +kernel
theorem dX7_step_97 : decode cX7_step 97 = .ok (.iload 5, 2) := by decide +kernel
theorem dX7_step_99 : decode cX7_step 99 = .ok (.laload, 1) := by decide +kernel
theorem dX7_step_100 : decode cX7_step 100 = .ok (.lcmp, 1) := by decide +kernel
theorem dX7_step_101 : decode cX7_step 101 = .ok (.ifCond .le 12, 3) := by decide +kernel
theorem dX7_step_104 : decode cX7_step 104 = .ok (.aload_n 0, 1) := by decide +kernel
theorem dX7_step_105 : decode cX7_step 105 = .ok (.getfield 31, 3) := by decide +kernel
theorem dX7_step_108 : decode cX7_step 108 = .ok (.iload 5, 2) := by decide +kernel
theorem dX7_step_110 : decode cX7_step 110 = .ok (.laload, 1) := by decide +kernel
theorem dX7_step_111 : decode cX7_step 111 = .ok (.lstore 10, 2) := by decide +kernel
theorem dX7_step_113 : decode cX7_step 113 = .ok (.lload 10, 2) := by decide +kernel
theorem dX7_step_115 : decode cX7_step 115 = .ok (.aload_n 0, 1) := by decide +kernel
theorem dX7_step_116 : decode cX7_step 116 = .ok (.getfield 31, 3) := by decide +kernel
theorem dX7_step_119 : decode cX7_step 119 = .ok (.iload 5, 2) := by decide +kernel
theorem dX7_step_121 : decode cX7_step 121 = .ok (.laload, 1) := by decide +kernel
theorem dX7_step_122 : decode cX7_step 122 = .ok (.lneg, 1) := by decide +kernel
theorem dX7_step_123 : decode cX7_step 123 = .ok (.lcmp, 1) := by decide +kernel
theorem dX7_step_124 : decode cX7_step 124 = .ok (.ifCond .ge 13, 3) := by decide +kernel
theorem dX7_step_127 : decode cX7_step 127 = .ok (.aload_n 0, 1) := by decide +kernel
theorem dX7_step_128 : decode cX7_step 128 = .ok (.getfield 31, 3) := by decide +kernel
theorem dX7_step_131 : decode cX7_step 131 = .ok (.iload 5, 2) := by decide +kernel
theorem dX7_step_133 : decode cX7_step 133 = .ok (.laload, 1) := by decide +kernel
theorem dX7_step_134 : decode cX7_step 134 = .ok (.lneg, 1) := by decide +kernel
theorem dX7_step_135 : decode cX7_step 135 = .ok (.lstore 10, 2) := by decide +kernel
theorem dX7_step_137 : decode cX7_step 137 = .ok (.lload 10, 2) := by decide +kernel
theorem dX7_step_139 : decode cX7_step 139 = .ok (.lload 8, 2) := by decide +kernel
theorem dX7_step_141 : decode cX7_step 141 = .ok (.lcmp, 1) := by decide +kernel
theorem dX7_step_142 : decode cX7_step 142 = .ok (.ifCond .ne 5, 3) := by decide +kernel
theorem dX7_step_145 : decode cX7_step 145 = .ok (.iconst 0, 1) := by decide +kernel
theorem dX7_step_146 : decode cX7_step 146 = .ok (.ireturn, 1) := by decide +kernel
theorem dX7_step_147 : decode cX7_step 147 = .ok (.aload_n 0, 1) := by decide +kernel
theorem dX7_step_148 : decode cX7_step 148 = .ok (.getfield 54, 3) := by decide +kernel
theorem dX7_step_151 : decode cX7_step 151 = .ok (.aload_n 0, 1) := by decide +kernel
theorem dX7_step_152 : decode cX7_step 152 = .ok (.getfield 48, 3) := by decide +kernel
theorem dX7_step_155 : decode cX7_step 155 = .ok (.iload_n 1, 1) := by decide +kernel
theorem dX7_step_156 : decode cX7_step 156 = .ok (.iaload, 1) := by decide +kernel
theorem dX7_step_157 : decode cX7_step 157 = .ok (.iload_n 2, 1) := by decide +kernel
theorem dX7_step_158 : decode cX7_step 158 = .ok (.iadd, 1) := by decide +kernel
theorem dX7_step_159 : decode cX7_step 159 = .ok (.aload_n 0, 1) := by decide +kernel
theorem dX7_step_160 : decode cX7_step 160 = .ok (.iload 5, 2) := by decide +kernel
theorem dX7_step_162 : decode cX7_step 162 = .ok (.lload 10, 2) := by decide +kernel
theorem dX7_step_164 : decode cX7_step 164 = .ok (.lload 10, 2) := by decide +kernel
theorem dX7_step_166 : decode cX7_step 166 = .ok (.lload 8, 2) := by decide +kernel
theorem dX7_step_168 : decode cX7_step 168 = .ok (.lcmp, 1) := by decide +kernel
theorem dX7_step_169 : decode cX7_step 169 = .ok (.ifCond .le 7, 3) := by decide +kernel
theorem dX7_step_172 : decode cX7_step 172 = .ok (.iconst 1, 1) := by decide +kernel
theorem dX7_step_173 : decode cX7_step 173 = .ok (.goto 4, 3) := by decide +kernel
theorem dX7_step_176 : decode cX7_step 176 = .ok (.iconst 0, 1) := by decide +kernel
theorem dX7_step_177 : decode cX7_step 177 = .ok (.invokevirtual 136, 3) := by decide +kernel
theorem dX7_step_180 : decode cX7_step 180 = .ok (.lastore, 1) := by decide +kernel
theorem dX7_step_181 : decode cX7_step 181 = .ok (.lload 10, 2) := by decide +kernel
theorem dX7_step_183 : decode cX7_step 183 = .ok (.lload 8, 2) := by decide +kernel
theorem dX7_step_185 : decode cX7_step 185 = .ok (.lcmp, 1) := by decide +kernel
theorem dX7_step_186 : decode cX7_step 186 = .ok (.ifCond .le 11, 3) := by decide +kernel
theorem dX7_step_189 : decode cX7_step 189 = .ok (.lload 10, 2) := by decide +kernel
theorem dX7_step_191 : decode cX7_step 191 = .ok (.lload 8, 2) := by decide +kernel
theorem dX7_step_193 : decode cX7_step 193 = .ok (.lsub, 1) := by decide +kernel
theorem dX7_step_194 : decode cX7_step 194 = .ok (.goto 8, 3) := by decide +kernel
theorem dX7_step_197 : decode cX7_step 197 = .ok (.lload 8, 2) := by decide +kernel
theorem dX7_step_199 : decode cX7_step 199 = .ok (.lload 10, 2) := by decide +kernel
theorem dX7_step_201 : decode cX7_step 201 = .ok (.lsub, 1) := by decide +kernel
theorem dX7_step_202 : decode cX7_step 202 = .ok (.l2i, 1) := by decide +kernel
theorem dX7_step_203 : decode cX7_step 203 = .ok (.ireturn, 1) := by decide +kernel
theorem dX7_farthest_0 : decode cX7_farthest 0 = .ok (.iload_n 1, 1) := by decide +kernel
theorem dX7_farthest_1 : decode cX7_farthest 1 = .ok (.ifCond .lt 11, 3) := by decide +kernel
theorem dX7_farthest_4 : decode cX7_farthest 4 = .ok (.iload_n 1, 1) := by decide +kernel
theorem dX7_farthest_5 : decode cX7_farthest 5 = .ok (.aload_n 0, 1) := by decide +kernel
theorem dX7_farthest_6 : decode cX7_farthest 6 = .ok (.getfield 79, 3) := by decide +kernel
theorem dX7_farthest_9 : decode cX7_farthest 9 = .ok (.if_icmp .lt 9, 3) := by decide +kernel
theorem dX7_farthest_12 : decode cX7_farthest 12 = .ok (.aload_n 0, 1) := by decide +kernel
theorem dX7_farthest_13 : decode cX7_farthest 13 = .ok (.iconst 1, 1) := by decide +kernel
theorem dX7_farthest_14 : decode cX7_farthest 14 = .ok (.invokevirtual 139, 3) := by decide +kernel
theorem dX7_farthest_17 : decode cX7_farthest 17 = .ok (.ireturn, 1) := by decide +kernel
theorem dX7_farthest_18 : decode cX7_farthest 18 = .ok (.aload_n 0, 1) := by decide +kernel
theorem dX7_farthest_19 : decode cX7_farthest 19 = .ok (.iconst 0, 1) := by decide +kernel
theorem dX7_farthest_20 : decode cX7_farthest 20 = .ok (.putfield 75, 3) := by decide +kernel
theorem dX7_farthest_23 : decode cX7_farthest 23 = .ok (.aload_n 0, 1) := by decide +kernel
theorem dX7_farthest_24 : decode cX7_farthest 24 = .ok (.getfield 51, 3) := by decide +kernel
theorem dX7_farthest_27 : decode cX7_farthest 27 = .ok (.iload_n 1, 1) := by decide +kernel
theorem dX7_farthest_28 : decode cX7_farthest 28 = .ok (.iaload, 1) := by decide +kernel
theorem dX7_farthest_29 : decode cX7_farthest 29 = .ok (.istore_n 3, 1) := by decide +kernel
theorem dX7_farthest_30 : decode cX7_farthest 30 = .ok (.iconst (-1), 1) := by decide +kernel
theorem dX7_farthest_31 : decode cX7_farthest 31 = .ok (.istore 4, 2) := by decide +kernel
theorem dX7_farthest_33 : decode cX7_farthest 33 = .ok (.iconst 0, 1) := by decide +kernel
theorem dX7_farthest_34 : decode cX7_farthest 34 = .ok (.istore 5, 2) := by decide +kernel
theorem dX7_farthest_36 : decode cX7_farthest 36 = .ok (.iload 5, 2) := by decide +kernel
theorem dX7_farthest_38 : decode cX7_farthest 38 = .ok (.aload_n 0, 1) := by decide +kernel
theorem dX7_farthest_39 : decode cX7_farthest 39 = .ok (.iload_n 1, 1) := by decide +kernel
theorem dX7_farthest_40 : decode cX7_farthest 40 = .ok (.invokevirtual 82, 3) := by decide +kernel
theorem dX7_farthest_43 : decode cX7_farthest 43 = .ok (.if_icmp .ge 99, 3) := by decide +kernel
theorem dX7_farthest_46 : decode cX7_farthest 46 = .ok (.aload_n 0, 1) := by decide +kernel
theorem dX7_farthest_47 : decode cX7_farthest 47 = .ok (.iload_n 3, 1) := by decide +kernel
theorem dX7_farthest_48 : decode cX7_farthest 48 = .ok (.aload_n 0, 1) := by decide +kernel
theorem dX7_farthest_49 : decode cX7_farthest 49 = .ok (.iload_n 1, 1) := by decide +kernel
theorem dX7_farthest_50 : decode cX7_farthest 50 = .ok (.iload 5, 2) := by decide +kernel
theorem dX7_farthest_52 : decode cX7_farthest 52 = .ok (.invokevirtual 155, 3) := by decide +kernel
theorem dX7_farthest_55 : decode cX7_farthest 55 = .ok (.invokevirtual 98, 3) := by decide +kernel
theorem dX7_farthest_58 : decode cX7_farthest 58 = .ok (.ifCond .eq 6, 3) := by decide +kernel
theorem dX7_farthest_61 : decode cX7_farthest 61 = .ok (.goto 75, 3) := by decide +kernel
theorem dX7_farthest_64 : decode cX7_farthest 64 = .ok (.iload 4, 2) := by decide +kernel
theorem dX7_farthest_66 : decode cX7_farthest 66 = .ok (.ifCond .lt 66, 3) := by decide +kernel
theorem dX7_farthest_69 : decode cX7_farthest 69 = .ok (.iload_n 2, 1) := by decide +kernel
theorem dX7_farthest_70 : decode cX7_farthest 70 = .ok (.ifCond .eq 34, 3) := by decide +kernel
theorem dX7_farthest_73 : decode cX7_farthest 73 = .ok (.aload_n 0, 1) := by decide +kernel
theorem dX7_farthest_74 : decode cX7_farthest 74 = .ok (.iload_n 3, 1) := by decide +kernel
theorem dX7_farthest_75 : decode cX7_farthest 75 = .ok (.aload_n 0, 1) := by decide +kernel
theorem dX7_farthest_76 : decode cX7_farthest 76 = .ok (.iload_n 1, 1) := by decide +kernel
theorem dX7_farthest_77 : decode cX7_farthest 77 = .ok (.iload 5, 2) := by decide +kernel
theorem dX7_farthest_79 : decode cX7_farthest 79 = .ok (.invokevirtual 155, 3) := by decide +kernel
theorem dX7_farthest_82 : decode cX7_farthest 82 = .ok (.invokevirtual 133, 3) := by decide +kernel
theorem dX7_farthest_85 : decode cX7_farthest 85 = .ok (.aload_n 0, 1) := by decide +kernel
theorem dX7_farthest_86 : decode cX7_farthest 86 = .ok (.iload_n 3, 1) := by decide +kernel
theorem dX7_farthest_87 : decode cX7_farthest 87 = .ok (.aload_n 0, 1) := by decide +kernel
theorem dX7_farthest_88 : decode cX7_farthest 88 = .ok (.iload_n 1, 1) := by decide +kernel
theorem dX7_farthest_89 : decode cX7_farthest 89 = .ok (.iload 4, 2) := by decide +kernel
theorem dX7_farthest_91 : decode cX7_farthest 91 = .ok (.invokevirtual 155, 3) := by decide +kernel
theorem dX7_farthest_94 : decode cX7_farthest 94 = .ok (.invokevirtual 133, 3) := by decide +kernel
theorem dX7_farthest_97 : decode cX7_farthest 97 = .ok (.lcmp, 1) := by decide +kernel
theorem dX7_farthest_98 : decode cX7_farthest 98 = .ok (.ifCond .le 38, 3) := by decide +kernel
theorem dX7_farthest_101 : decode cX7_farthest 101 = .ok (.goto 31, 3) := by decide +kernel
theorem dX7_farthest_104 : decode cX7_farthest 104 = .ok (.aload_n 0, 1) := by decide +kernel
theorem dX7_farthest_105 : decode cX7_farthest 105 = .ok (.iload_n 3, 1) := by decide +kernel
theorem dX7_farthest_106 : decode cX7_farthest 106 = .ok (.aload_n 0, 1) := by decide +kernel
theorem dX7_farthest_107 : decode cX7_farthest 107 = .ok (.iload_n 1, 1) := by decide +kernel
theorem dX7_farthest_108 : decode cX7_farthest 108 = .ok (.iload 5, 2) := by decide +kernel
theorem dX7_farthest_110 : decode cX7_farthest 110 = .ok (.invokevirtual 155, 3) := by decide +kernel
theorem dX7_farthest_113 : decode cX7_farthest 113 = .ok (.invokevirtual 133, 3) := by decide +kernel
theorem dX7_farthest_116 : decode cX7_farthest 116 = .ok (.aload_n 0, 1) := by decide +kernel
theorem dX7_farthest_117 : decode cX7_farthest 117 = .ok (.iload_n 3, 1) := by decide +kernel
theorem dX7_farthest_118 : decode cX7_farthest 118 = .ok (.aload_n 0, 1) := by decide +kernel
theorem dX7_farthest_119 : decode cX7_farthest 119 = .ok (.iload_n 1, 1) := by decide +kernel
theorem dX7_farthest_120 : decode cX7_farthest 120 = .ok (.iload 4, 2) := by decide +kernel
theorem dX7_farthest_122 : decode cX7_farthest 122 = .ok (.invokevirtual 155, 3) := by decide +kernel
theorem dX7_farthest_125 : decode cX7_farthest 125 = .ok (.invokevirtual 133, 3) := by decide +kernel
theorem dX7_farthest_128 : decode cX7_farthest 128 = .ok (.lcmp, 1) := by decide +kernel
theorem dX7_farthest_129 : decode cX7_farthest 129 = .ok (.ifCond .ge 7, 3) := by decide +kernel
theorem dX7_farthest_132 : decode cX7_farthest 132 = .ok (.iload 5, 2) := by decide +kernel
theorem dX7_farthest_134 : decode cX7_farthest 134 = .ok (.istore 4, 2) := by decide +kernel
theorem dX7_farthest_136 : decode cX7_farthest 136 = .ok (.iinc 5 1, 3) := by decide +kernel
theorem dX7_farthest_139 : decode cX7_farthest 139 = .ok (.goto (-103), 3) := by decide +kernel
theorem dX7_farthest_142 : decode cX7_farthest 142 = .ok (.iload 4, 2) := by decide +kernel
theorem dX7_farthest_144 : decode cX7_farthest 144 = .ok (.ireturn, 1) := by decide +kernel
theorem dX7_least_0 : decode cX7_least 0 = .ok (.aload_n 0, 1) := by decide +kernel
theorem dX7_least_1 : decode cX7_least 1 = .ok (.iload_n 1, 1) := by decide +kernel
theorem dX7_least_2 : decode cX7_least 2 = .ok (.iconst 0, 1) := by decide +kernel
theorem dX7_least_3 : decode cX7_least 3 = .ok (.invokevirtual 214, 3) := by decide +kernel
theorem dX7_least_6 : decode cX7_least 6 = .ok (.ireturn, 1) := by decide +kernel
theorem dX7_greatest_0 : decode cX7_greatest 0 = .ok (.aload_n 0, 1) := by decide +kernel
theorem dX7_greatest_1 : decode cX7_greatest 1 = .ok (.iload_n 1, 1) := by decide +kernel
theorem dX7_greatest_2 : decode cX7_greatest 2 = .ok (.iconst 1, 1) := by decide +kernel
theorem dX7_greatest_3 : decode cX7_greatest 3 = .ok (.invokevirtual 214, 3) := by decide +kernel
theorem dX7_greatest_6 : decode cX7_greatest 6 = .ok (.ireturn, 1) := by decide +kernel
theorem dX7_sum_0 : decode cX7_sum 0 = .ok (.aload_n 0, 1) := by decide +kernel
theorem dX7_sum_1 : decode cX7_sum 1 = .ok (.iload_n 1, 1) := by decide +kernel
theorem dX7_sum_2 : decode cX7_sum 2 = .ok (.ifCond .lt 11, 3) := by decide +kernel
theorem dX7_sum_5 : decode cX7_sum 5 = .ok (.iload_n 1, 1) := by decide +kernel
theorem dX7_sum_6 : decode cX7_sum 6 = .ok (.aload_n 0, 1) := by decide +kernel
theorem dX7_sum_7 : decode cX7_sum 7 = .ok (.getfield 79, 3) := by decide +kernel
theorem dX7_sum_10 : decode cX7_sum 10 = .ok (.if_icmp .lt 7, 3) := by decide +kernel
theorem dX7_sum_13 : decode cX7_sum 13 = .ok (.iconst 1, 1) := by decide +kernel
theorem dX7_sum_14 : decode cX7_sum 14 = .ok (.goto 17, 3) := by decide +kernel
theorem dX7_sum_17 : decode cX7_sum 17 = .ok (.iload_n 2, 1) := by decide +kernel
theorem dX7_sum_18 : decode cX7_sum 18 = .ok (.ifCond .lt 8, 3) := by decide +kernel
theorem dX7_sum_21 : decode cX7_sum 21 = .ok (.iload_n 2, 1) := by decide +kernel
theorem dX7_sum_22 : decode cX7_sum 22 = .ok (.iconst 2, 1) := by decide +kernel
theorem dX7_sum_23 : decode cX7_sum 23 = .ok (.if_icmp .le 7, 3) := by decide +kernel
theorem dX7_sum_26 : decode cX7_sum 26 = .ok (.iconst 2, 1) := by decide +kernel
theorem dX7_sum_27 : decode cX7_sum 27 = .ok (.goto 4, 3) := by decide +kernel
theorem dX7_sum_30 : decode cX7_sum 30 = .ok (.iconst 0, 1) := by decide +kernel
theorem dX7_sum_31 : decode cX7_sum 31 = .ok (.putfield 75, 3) := by decide +kernel
theorem dX7_sum_34 : decode cX7_sum 34 = .ok (.aload_n 0, 1) := by decide +kernel
theorem dX7_sum_35 : decode cX7_sum 35 = .ok (.getfield 75, 3) := by decide +kernel
theorem dX7_sum_38 : decode cX7_sum 38 = .ok (.ifCond .le 5, 3) := by decide +kernel
theorem dX7_sum_41 : decode cX7_sum 41 = .ok (.lconst 0, 1) := by decide +kernel
theorem dX7_sum_42 : decode cX7_sum 42 = .ok (.lreturn, 1) := by decide +kernel
theorem dX7_sum_43 : decode cX7_sum 43 = .ok (.aload_n 0, 1) := by decide +kernel
theorem dX7_sum_44 : decode cX7_sum 44 = .ok (.getfield 51, 3) := by decide +kernel
theorem dX7_sum_47 : decode cX7_sum 47 = .ok (.iload_n 1, 1) := by decide +kernel
theorem dX7_sum_48 : decode cX7_sum 48 = .ok (.iaload, 1) := by decide +kernel
theorem dX7_sum_49 : decode cX7_sum 49 = .ok (.istore_n 3, 1) := by decide +kernel
theorem dX7_sum_50 : decode cX7_sum 50 = .ok (.iload_n 2, 1) := by decide +kernel
theorem dX7_sum_51 : decode cX7_sum 51 = .ok (.iconst 2, 1) := by decide +kernel
theorem dX7_sum_52 : decode cX7_sum 52 = .ok (.if_icmp .ne 9, 3) := by decide +kernel
theorem dX7_sum_55 : decode cX7_sum 55 = .ok (.aload_n 0, 1) := by decide +kernel
theorem dX7_sum_56 : decode cX7_sum 56 = .ok (.iload_n 1, 1) := by decide +kernel
theorem dX7_sum_57 : decode cX7_sum 57 = .ok (.invokevirtual 218, 3) := by decide +kernel
theorem dX7_sum_60 : decode cX7_sum 60 = .ok (.lreturn, 1) := by decide +kernel
theorem dX7_sum_61 : decode cX7_sum 61 = .ok (.lconst 0, 1) := by decide +kernel
theorem dX7_sum_62 : decode cX7_sum 62 = .ok (.lstore 4, 2) := by decide +kernel
theorem dX7_sum_64 : decode cX7_sum 64 = .ok (.lconst 0, 1) := by decide +kernel
theorem dX7_sum_65 : decode cX7_sum 65 = .ok (.lstore 6, 2) := by decide +kernel
theorem dX7_sum_67 : decode cX7_sum 67 = .ok (.iconst 0, 1) := by decide +kernel
theorem dX7_sum_68 : decode cX7_sum 68 = .ok (.istore 8, 2) := by decide +kernel
theorem dX7_sum_70 : decode cX7_sum 70 = .ok (.iload 8, 2) := by decide +kernel
theorem dX7_sum_72 : decode cX7_sum 72 = .ok (.aload_n 0, 1) := by decide +kernel
theorem dX7_sum_73 : decode cX7_sum 73 = .ok (.iload_n 1, 1) := by decide +kernel
theorem dX7_sum_74 : decode cX7_sum 74 = .ok (.invokevirtual 82, 3) := by decide +kernel
theorem dX7_sum_77 : decode cX7_sum 77 = .ok (.if_icmp .ge 87, 3) := by decide +kernel
theorem dX7_sum_80 : decode cX7_sum 80 = .ok (.iload_n 2, 1) := by decide +kernel
theorem dX7_sum_81 : decode cX7_sum 81 = .ok (.ifCond .ne 13, 3) := by decide +kernel
theorem dX7_sum_84 : decode cX7_sum 84 = .ok (.aload_n 0, 1) := by decide +kernel
theorem dX7_sum_85 : decode cX7_sum 85 = .ok (.iload_n 1, 1) := by decide +kernel
theorem dX7_sum_86 : decode cX7_sum 86 = .ok (.iload 8, 2) := by decide +kernel
theorem dX7_sum_88 : decode cX7_sum 88 = .ok (.invokevirtual 155, 3) := by decide +kernel
theorem dX7_sum_91 : decode cX7_sum 91 = .ok (.goto 22, 3) := by decide +kernel
theorem dX7_sum_94 : decode cX7_sum 94 = .ok (.aload_n 0, 1) := by decide +kernel
theorem dX7_sum_95 : decode cX7_sum 95 = .ok (.iload_n 3, 1) := by decide +kernel
theorem dX7_sum_96 : decode cX7_sum 96 = .ok (.aload_n 0, 1) := by decide +kernel
theorem dX7_sum_97 : decode cX7_sum 97 = .ok (.iload_n 1, 1) := by decide +kernel
theorem dX7_sum_98 : decode cX7_sum 98 = .ok (.iload 8, 2) := by decide +kernel
theorem dX7_sum_100 : decode cX7_sum 100 = .ok (.invokevirtual 155, 3) := by decide +kernel
theorem dX7_sum_103 : decode cX7_sum 103 = .ok (.aload_n 0, 1) := by decide +kernel
theorem dX7_sum_104 : decode cX7_sum 104 = .ok (.iload_n 3, 1) := by decide +kernel
theorem dX7_sum_105 : decode cX7_sum 105 = .ok (.lload 6, 2) := by decide +kernel
theorem dX7_sum_107 : decode cX7_sum 107 = .ok (.invokevirtual 200, 3) := by decide +kernel
theorem dX7_sum_110 : decode cX7_sum 110 = .ok (.invokevirtual 197, 3) := by decide +kernel
theorem dX7_sum_113 : decode cX7_sum 113 = .ok (.lstore 9, 2) := by decide +kernel
theorem dX7_sum_115 : decode cX7_sum 115 = .ok (.aload_n 0, 1) := by decide +kernel
theorem dX7_sum_116 : decode cX7_sum 116 = .ok (.iload_n 3, 1) := by decide +kernel
theorem dX7_sum_117 : decode cX7_sum 117 = .ok (.lload 4, 2) := by decide +kernel
theorem dX7_sum_119 : decode cX7_sum 119 = .ok (.lload 9, 2) := by decide +kernel
theorem dX7_sum_121 : decode cX7_sum 121 = .ok (.invokevirtual 197, 3) := by decide +kernel
theorem dX7_sum_124 : decode cX7_sum 124 = .ok (.lstore 11, 2) := by decide +kernel
theorem dX7_sum_126 : decode cX7_sum 126 = .ok (.aload_n 0, 1) := by decide +kernel
theorem dX7_sum_127 : decode cX7_sum 127 = .ok (.iload_n 3, 1) := by decide +kernel
theorem dX7_sum_128 : decode cX7_sum 128 = .ok (.aload_n 0, 1) := by decide +kernel
theorem dX7_sum_129 : decode cX7_sum 129 = .ok (.iload_n 3, 1) := by decide +kernel
theorem dX7_sum_130 : decode cX7_sum 130 = .ok (.lload 11, 2) := by decide +kernel
theorem dX7_sum_132 : decode cX7_sum 132 = .ok (.aload_n 0, 1) := by decide +kernel
theorem dX7_sum_133 : decode cX7_sum 133 = .ok (.iload_n 3, 1) := by decide +kernel
theorem dX7_sum_134 : decode cX7_sum 134 = .ok (.lload 4, 2) := by decide +kernel
theorem dX7_sum_136 : decode cX7_sum 136 = .ok (.invokevirtual 200, 3) := by decide +kernel
theorem dX7_sum_139 : decode cX7_sum 139 = .ok (.invokevirtual 197, 3) := by decide +kernel
theorem dX7_sum_142 : decode cX7_sum 142 = .ok (.aload_n 0, 1) := by decide +kernel
theorem dX7_sum_143 : decode cX7_sum 143 = .ok (.iload_n 3, 1) := by decide +kernel
theorem dX7_sum_144 : decode cX7_sum 144 = .ok (.lload 9, 2) := by decide +kernel
theorem dX7_sum_146 : decode cX7_sum 146 = .ok (.invokevirtual 200, 3) := by decide +kernel
theorem dX7_sum_149 : decode cX7_sum 149 = .ok (.invokevirtual 197, 3) := by decide +kernel
theorem dX7_sum_152 : decode cX7_sum 152 = .ok (.lstore 6, 2) := by decide +kernel
theorem dX7_sum_154 : decode cX7_sum 154 = .ok (.lload 11, 2) := by decide +kernel
theorem dX7_sum_156 : decode cX7_sum 156 = .ok (.lstore 4, 2) := by decide +kernel
theorem dX7_sum_158 : decode cX7_sum 158 = .ok (.iinc 8 1, 3) := by decide +kernel
theorem dX7_sum_161 : decode cX7_sum 161 = .ok (.goto (-91), 3) := by decide +kernel
theorem dX7_sum_164 : decode cX7_sum 164 = .ok (.lload 4, 2) := by decide +kernel
theorem dX7_sum_166 : decode cX7_sum 166 = .ok (.lreturn, 1) := by decide +kernel
theorem dX7_halves_0 : decode cX7_halves 0 = .ok (.aload_n 0, 1) := by decide +kernel
theorem dX7_halves_1 : decode cX7_halves 1 = .ok (.getfield 63, 3) := by decide +kernel
theorem dX7_halves_4 : decode cX7_halves 4 = .ok (.iconst 0, 1) := by decide +kernel
theorem dX7_halves_5 : decode cX7_halves 5 = .ok (.iconst 0, 1) := by decide +kernel
theorem dX7_halves_6 : decode cX7_halves 6 = .ok (.iastore, 1) := by decide +kernel
theorem dX7_halves_7 : decode cX7_halves 7 = .ok (.aload_n 0, 1) := by decide +kernel
theorem dX7_halves_8 : decode cX7_halves 8 = .ok (.getfield 66, 3) := by decide +kernel
theorem dX7_halves_11 : decode cX7_halves 11 = .ok (.iconst 0, 1) := by decide +kernel
theorem dX7_halves_12 : decode cX7_halves 12 = .ok (.aload_n 0, 1) := by decide +kernel
theorem dX7_halves_13 : decode cX7_halves 13 = .ok (.iload_n 1, 1) := by decide +kernel
theorem dX7_halves_14 : decode cX7_halves 14 = .ok (.invokevirtual 82, 3) := by decide +kernel
theorem dX7_halves_17 : decode cX7_halves 17 = .ok (.iastore, 1) := by decide +kernel
theorem dX7_halves_18 : decode cX7_halves 18 = .ok (.aload_n 0, 1) := by decide +kernel
theorem dX7_halves_19 : decode cX7_halves 19 = .ok (.getfield 69, 3) := by decide +kernel
theorem dX7_halves_22 : decode cX7_halves 22 = .ok (.iconst 0, 1) := by decide +kernel
theorem dX7_halves_23 : decode cX7_halves 23 = .ok (.iconst 0, 1) := by decide +kernel
theorem dX7_halves_24 : decode cX7_halves 24 = .ok (.iastore, 1) := by decide +kernel
theorem dX7_halves_25 : decode cX7_halves 25 = .ok (.iconst 0, 1) := by decide +kernel
theorem dX7_halves_26 : decode cX7_halves 26 = .ok (.istore_n 2, 1) := by decide +kernel
theorem dX7_halves_27 : decode cX7_halves 27 = .ok (.lconst 0, 1) := by decide +kernel
theorem dX7_halves_28 : decode cX7_halves 28 = .ok (.lstore_n 3, 1) := by decide +kernel
theorem dX7_halves_29 : decode cX7_halves 29 = .ok (.iload_n 2, 1) := by decide +kernel
theorem dX7_halves_30 : decode cX7_halves 30 = .ok (.ifCond .lt 177, 3) := by decide +kernel
theorem dX7_halves_33 : decode cX7_halves 33 = .ok (.aload_n 0, 1) := by decide +kernel
theorem dX7_halves_34 : decode cX7_halves 34 = .ok (.getfield 66, 3) := by decide +kernel
theorem dX7_halves_37 : decode cX7_halves 37 = .ok (.iload_n 2, 1) := by decide +kernel
theorem dX7_halves_38 : decode cX7_halves 38 = .ok (.iaload, 1) := by decide +kernel
theorem dX7_halves_39 : decode cX7_halves 39 = .ok (.iconst 2, 1) := by decide +kernel
theorem dX7_halves_40 : decode cX7_halves 40 = .ok (.idiv, 1) := by decide +kernel
theorem dX7_halves_41 : decode cX7_halves 41 = .ok (.istore 5, 2) := by decide +kernel
theorem dX7_halves_43 : decode cX7_halves 43 = .ok (.iload 5, 2) := by decide +kernel
theorem dX7_halves_45 : decode cX7_halves 45 = .ok (.ifCond .ne 21, 3) := by decide +kernel
theorem dX7_halves_48 : decode cX7_halves 48 = .ok (.aload_n 0, 1) := by decide +kernel
theorem dX7_halves_49 : decode cX7_halves 49 = .ok (.iload_n 1, 1) := by decide +kernel
theorem dX7_halves_50 : decode cX7_halves 50 = .ok (.aload_n 0, 1) := by decide +kernel
theorem dX7_halves_51 : decode cX7_halves 51 = .ok (.getfield 63, 3) := by decide +kernel
theorem dX7_halves_54 : decode cX7_halves 54 = .ok (.iload_n 2, 1) := by decide +kernel
theorem dX7_halves_55 : decode cX7_halves 55 = .ok (.iaload, 1) := by decide +kernel
theorem dX7_halves_56 : decode cX7_halves 56 = .ok (.invokevirtual 155, 3) := by decide +kernel
theorem dX7_halves_59 : decode cX7_halves 59 = .ok (.lstore_n 3, 1) := by decide +kernel
theorem dX7_halves_60 : decode cX7_halves 60 = .ok (.iinc 2 (-1), 3) := by decide +kernel
theorem dX7_halves_63 : decode cX7_halves 63 = .ok (.goto 141, 3) := by decide +kernel
theorem dX7_halves_66 : decode cX7_halves 66 = .ok (.aload_n 0, 1) := by decide +kernel
theorem dX7_halves_67 : decode cX7_halves 67 = .ok (.getfield 69, 3) := by decide +kernel
theorem dX7_halves_70 : decode cX7_halves 70 = .ok (.iload_n 2, 1) := by decide +kernel
theorem dX7_halves_71 : decode cX7_halves 71 = .ok (.iaload, 1) := by decide +kernel
theorem dX7_halves_72 : decode cX7_halves 72 = .ok (.iconst 2, 1) := by decide +kernel
theorem dX7_halves_73 : decode cX7_halves 73 = .ok (.if_icmp .ne 27, 3) := by decide +kernel
theorem dX7_halves_76 : decode cX7_halves 76 = .ok (.aload_n 0, 1) := by decide +kernel
theorem dX7_halves_77 : decode cX7_halves 77 = .ok (.aload_n 0, 1) := by decide +kernel
theorem dX7_halves_78 : decode cX7_halves 78 = .ok (.getfield 51, 3) := by decide +kernel
theorem dX7_halves_81 : decode cX7_halves 81 = .ok (.iload_n 1, 1) := by decide +kernel
theorem dX7_halves_82 : decode cX7_halves 82 = .ok (.iaload, 1) := by decide +kernel
theorem dX7_halves_83 : decode cX7_halves 83 = .ok (.aload_n 0, 1) := by decide +kernel
theorem dX7_halves_84 : decode cX7_halves 84 = .ok (.getfield 72, 3) := by decide +kernel
theorem dX7_halves_87 : decode cX7_halves 87 = .ok (.iload_n 2, 1) := by decide +kernel
theorem dX7_halves_88 : decode cX7_halves 88 = .ok (.laload, 1) := by decide +kernel
theorem dX7_halves_89 : decode cX7_halves 89 = .ok (.lload_n 3, 1) := by decide +kernel
theorem dX7_halves_90 : decode cX7_halves 90 = .ok (.invokevirtual 197, 3) := by decide +kernel
theorem dX7_halves_93 : decode cX7_halves 93 = .ok (.lstore_n 3, 1) := by decide +kernel
theorem dX7_halves_94 : decode cX7_halves 94 = .ok (.iinc 2 (-1), 3) := by decide +kernel
theorem dX7_halves_97 : decode cX7_halves 97 = .ok (.goto 107, 3) := by decide +kernel
theorem dX7_halves_100 : decode cX7_halves 100 = .ok (.aload_n 0, 1) := by decide +kernel
theorem dX7_halves_101 : decode cX7_halves 101 = .ok (.getfield 69, 3) := by decide +kernel
theorem dX7_halves_104 : decode cX7_halves 104 = .ok (.iload_n 2, 1) := by decide +kernel
theorem dX7_halves_105 : decode cX7_halves 105 = .ok (.iaload, 1) := by decide +kernel
theorem dX7_halves_106 : decode cX7_halves 106 = .ok (.iconst 1, 1) := by decide +kernel
theorem dX7_halves_107 : decode cX7_halves 107 = .ok (.if_icmp .ne 7, 3) := by decide +kernel
theorem dX7_halves_110 : decode cX7_halves 110 = .ok (.iconst 1, 1) := by decide +kernel
theorem dX7_halves_111 : decode cX7_halves 111 = .ok (.goto 4, 3) := by decide +kernel
theorem dX7_halves_114 : decode cX7_halves 114 = .ok (.iconst 0, 1) := by decide +kernel
theorem dX7_halves_115 : decode cX7_halves 115 = .ok (.istore 6, 2) := by decide +kernel
theorem dX7_halves_117 : decode cX7_halves 117 = .ok (.aload_n 0, 1) := by decide +kernel
theorem dX7_halves_118 : decode cX7_halves 118 = .ok (.getfield 72, 3) := by decide +kernel
theorem dX7_halves_121 : decode cX7_halves 121 = .ok (.iload_n 2, 1) := by decide +kernel
theorem dX7_halves_122 : decode cX7_halves 122 = .ok (.lload_n 3, 1) := by decide +kernel
theorem dX7_halves_123 : decode cX7_halves 123 = .ok (.lastore, 1) := by decide +kernel
theorem dX7_halves_124 : decode cX7_halves 124 = .ok (.aload_n 0, 1) := by decide +kernel
theorem dX7_halves_125 : decode cX7_halves 125 = .ok (.getfield 69, 3) := by decide +kernel
theorem dX7_halves_128 : decode cX7_halves 128 = .ok (.iload_n 2, 1) := by decide +kernel
theorem dX7_halves_129 : decode cX7_halves 129 = .ok (.dup2, 1) := by decide +kernel
theorem dX7_halves_130 : decode cX7_halves 130 = .ok (.iaload, 1) := by decide +kernel
theorem dX7_halves_131 : decode cX7_halves 131 = .ok (.iconst 1, 1) := by decide +kernel
theorem dX7_halves_132 : decode cX7_halves 132 = .ok (.iadd, 1) := by decide +kernel
theorem dX7_halves_133 : decode cX7_halves 133 = .ok (.iastore, 1) := by decide +kernel
theorem dX7_halves_134 : decode cX7_halves 134 = .ok (.aload_n 0, 1) := by decide +kernel
theorem dX7_halves_135 : decode cX7_halves 135 = .ok (.getfield 63, 3) := by decide +kernel
theorem dX7_halves_138 : decode cX7_halves 138 = .ok (.iload_n 2, 1) := by decide +kernel
theorem dX7_halves_139 : decode cX7_halves 139 = .ok (.iconst 1, 1) := by decide +kernel
theorem dX7_halves_140 : decode cX7_halves 140 = .ok (.iadd, 1) := by decide +kernel
theorem dX7_halves_141 : decode cX7_halves 141 = .ok (.iload 6, 2) := by decide +kernel
theorem dX7_halves_143 : decode cX7_halves 143 = .ok (.ifCond .eq 15, 3) := by decide +kernel
theorem dX7_halves_146 : decode cX7_halves 146 = .ok (.aload_n 0, 1) := by decide +kernel
theorem dX7_halves_147 : decode cX7_halves 147 = .ok (.getfield 63, 3) := by decide +kernel
theorem dX7_halves_150 : decode cX7_halves 150 = .ok (.iload_n 2, 1) := by decide +kernel
theorem dX7_halves_151 : decode cX7_halves 151 = .ok (.iaload, 1) := by decide +kernel
theorem dX7_halves_152 : decode cX7_halves 152 = .ok (.iload 5, 2) := by decide +kernel
theorem dX7_halves_154 : decode cX7_halves 154 = .ok (.iadd, 1) := by decide +kernel
theorem dX7_halves_155 : decode cX7_halves 155 = .ok (.goto 9, 3) := by decide +kernel
theorem dX7_halves_158 : decode cX7_halves 158 = .ok (.aload_n 0, 1) := by decide +kernel
theorem dX7_halves_159 : decode cX7_halves 159 = .ok (.getfield 63, 3) := by decide +kernel
theorem dX7_halves_162 : decode cX7_halves 162 = .ok (.iload_n 2, 1) := by decide +kernel
theorem dX7_halves_163 : decode cX7_halves 163 = .ok (.iaload, 1) := by decide +kernel
theorem dX7_halves_164 : decode cX7_halves 164 = .ok (.iastore, 1) := by decide +kernel
theorem dX7_halves_165 : decode cX7_halves 165 = .ok (.aload_n 0, 1) := by decide +kernel
theorem dX7_halves_166 : decode cX7_halves 166 = .ok (.getfield 66, 3) := by decide +kernel
theorem dX7_halves_169 : decode cX7_halves 169 = .ok (.iload_n 2, 1) := by decide +kernel
theorem dX7_halves_170 : decode cX7_halves 170 = .ok (.iconst 1, 1) := by decide +kernel
theorem dX7_halves_171 : decode cX7_halves 171 = .ok (.iadd, 1) := by decide +kernel
theorem dX7_halves_172 : decode cX7_halves 172 = .ok (.iload 6, 2) := by decide +kernel
theorem dX7_halves_174 : decode cX7_halves 174 = .ok (.ifCond .eq 15, 3) := by decide +kernel
theorem dX7_halves_177 : decode cX7_halves 177 = .ok (.aload_n 0, 1) := by decide +kernel
theorem dX7_halves_178 : decode cX7_halves 178 = .ok (.getfield 66, 3) := by decide +kernel
theorem dX7_halves_181 : decode cX7_halves 181 = .ok (.iload_n 2, 1) := by decide +kernel
theorem dX7_halves_182 : decode cX7_halves 182 = .ok (.iaload, 1) := by decide +kernel
theorem dX7_halves_183 : decode cX7_halves 183 = .ok (.iload 5, 2) := by decide +kernel
theorem dX7_halves_185 : decode cX7_halves 185 = .ok (.isub, 1) := by decide +kernel
theorem dX7_halves_186 : decode cX7_halves 186 = .ok (.goto 5, 3) := by decide +kernel
theorem dX7_halves_189 : decode cX7_halves 189 = .ok (.iload 5, 2) := by decide +kernel
theorem dX7_halves_191 : decode cX7_halves 191 = .ok (.iastore, 1) := by decide +kernel
theorem dX7_halves_192 : decode cX7_halves 192 = .ok (.aload_n 0, 1) := by decide +kernel
theorem dX7_halves_193 : decode cX7_halves 193 = .ok (.getfield 69, 3) := by decide +kernel
theorem dX7_halves_196 : decode cX7_halves 196 = .ok (.iload_n 2, 1) := by decide +kernel
theorem dX7_halves_197 : decode cX7_halves 197 = .ok (.iconst 1, 1) := by decide +kernel
theorem dX7_halves_198 : decode cX7_halves 198 = .ok (.iadd, 1) := by decide +kernel
theorem dX7_halves_199 : decode cX7_halves 199 = .ok (.iconst 0, 1) := by decide +kernel
theorem dX7_halves_200 : decode cX7_halves 200 = .ok (.iastore, 1) := by decide +kernel
theorem dX7_halves_201 : decode cX7_halves 201 = .ok (.iinc 2 1, 3) := by decide +kernel
theorem dX7_halves_204 : decode cX7_halves 204 = .ok (.goto (-175), 3) := by decide +kernel
theorem dX7_halves_207 : decode cX7_halves 207 = .ok (.lload_n 3, 1) := by decide +kernel
theorem dX7_halves_208 : decode cX7_halves 208 = .ok (.lreturn, 1) := by decide +kernel
theorem dX7_find_0 : decode cX7_find 0 = .ok (.iload_n 1, 1) := by decide +kernel
theorem dX7_find_1 : decode cX7_find 1 = .ok (.ifCond .lt 11, 3) := by decide +kernel
theorem dX7_find_4 : decode cX7_find 4 = .ok (.iload_n 1, 1) := by decide +kernel
theorem dX7_find_5 : decode cX7_find 5 = .ok (.aload_n 0, 1) := by decide +kernel
theorem dX7_find_6 : decode cX7_find 6 = .ok (.getfield 79, 3) := by decide +kernel
theorem dX7_find_9 : decode cX7_find 9 = .ok (.if_icmp .lt 9, 3) := by decide +kernel
theorem dX7_find_12 : decode cX7_find 12 = .ok (.aload_n 0, 1) := by decide +kernel
theorem dX7_find_13 : decode cX7_find 13 = .ok (.iconst 1, 1) := by decide +kernel
theorem dX7_find_14 : decode cX7_find 14 = .ok (.invokevirtual 139, 3) := by decide +kernel
theorem dX7_find_17 : decode cX7_find 17 = .ok (.ireturn, 1) := by decide +kernel
theorem dX7_find_18 : decode cX7_find 18 = .ok (.aload_n 0, 1) := by decide +kernel
theorem dX7_find_19 : decode cX7_find 19 = .ok (.getfield 51, 3) := by decide +kernel
theorem dX7_find_22 : decode cX7_find 22 = .ok (.iload_n 1, 1) := by decide +kernel
theorem dX7_find_23 : decode cX7_find 23 = .ok (.iaload, 1) := by decide +kernel
theorem dX7_find_24 : decode cX7_find 24 = .ok (.istore 4, 2) := by decide +kernel
theorem dX7_find_26 : decode cX7_find 26 = .ok (.iconst 1, 1) := by decide +kernel
theorem dX7_find_27 : decode cX7_find 27 = .ok (.istore 5, 2) := by decide +kernel
theorem dX7_find_29 : decode cX7_find 29 = .ok (.iload 5, 2) := by decide +kernel
theorem dX7_find_31 : decode cX7_find 31 = .ok (.aload_n 0, 1) := by decide +kernel
theorem dX7_find_32 : decode cX7_find 32 = .ok (.iload_n 1, 1) := by decide +kernel
theorem dX7_find_33 : decode cX7_find 33 = .ok (.invokevirtual 82, 3) := by decide +kernel
theorem dX7_find_36 : decode cX7_find 36 = .ok (.if_icmp .ge 40, 3) := by decide +kernel
theorem dX7_find_39 : decode cX7_find 39 = .ok (.aload_n 0, 1) := by decide +kernel
theorem dX7_find_40 : decode cX7_find 40 = .ok (.iload 4, 2) := by decide +kernel
theorem dX7_find_42 : decode cX7_find 42 = .ok (.aload_n 0, 1) := by decide +kernel
theorem dX7_find_43 : decode cX7_find 43 = .ok (.iload_n 1, 1) := by decide +kernel
theorem dX7_find_44 : decode cX7_find 44 = .ok (.iload 5, 2) := by decide +kernel
theorem dX7_find_46 : decode cX7_find 46 = .ok (.iconst 1, 1) := by decide +kernel
theorem dX7_find_47 : decode cX7_find 47 = .ok (.isub, 1) := by decide +kernel
theorem dX7_find_48 : decode cX7_find 48 = .ok (.invokevirtual 155, 3) := by decide +kernel
theorem dX7_find_51 : decode cX7_find 51 = .ok (.aload_n 0, 1) := by decide +kernel
theorem dX7_find_52 : decode cX7_find 52 = .ok (.iload_n 1, 1) := by decide +kernel
theorem dX7_find_53 : decode cX7_find 53 = .ok (.iload 5, 2) := by decide +kernel
theorem dX7_find_55 : decode cX7_find 55 = .ok (.invokevirtual 155, 3) := by decide +kernel
theorem dX7_find_58 : decode cX7_find 58 = .ok (.invokevirtual 171, 3) := by decide +kernel
theorem dX7_find_61 : decode cX7_find 61 = .ok (.ifCond .le 9, 3) := by decide +kernel
theorem dX7_find_64 : decode cX7_find 64 = .ok (.aload_n 0, 1) := by decide +kernel
theorem dX7_find_65 : decode cX7_find 65 = .ok (.iconst 4, 1) := by decide +kernel
theorem dX7_find_66 : decode cX7_find 66 = .ok (.invokevirtual 139, 3) := by decide +kernel
theorem dX7_find_69 : decode cX7_find 69 = .ok (.ireturn, 1) := by decide +kernel
theorem dX7_find_70 : decode cX7_find 70 = .ok (.iinc 5 1, 3) := by decide +kernel
theorem dX7_find_73 : decode cX7_find 73 = .ok (.goto (-44), 3) := by decide +kernel
theorem dX7_find_76 : decode cX7_find 76 = .ok (.aload_n 0, 1) := by decide +kernel
theorem dX7_find_77 : decode cX7_find 77 = .ok (.iconst 0, 1) := by decide +kernel
theorem dX7_find_78 : decode cX7_find 78 = .ok (.putfield 75, 3) := by decide +kernel
theorem dX7_find_81 : decode cX7_find 81 = .ok (.iconst 0, 1) := by decide +kernel
theorem dX7_find_82 : decode cX7_find 82 = .ok (.istore 5, 2) := by decide +kernel
theorem dX7_find_84 : decode cX7_find 84 = .ok (.iload 5, 2) := by decide +kernel
theorem dX7_find_86 : decode cX7_find 86 = .ok (.aload_n 0, 1) := by decide +kernel
theorem dX7_find_87 : decode cX7_find 87 = .ok (.iload_n 1, 1) := by decide +kernel
theorem dX7_find_88 : decode cX7_find 88 = .ok (.invokevirtual 82, 3) := by decide +kernel
theorem dX7_find_91 : decode cX7_find 91 = .ok (.if_icmp .ge 30, 3) := by decide +kernel
theorem dX7_find_94 : decode cX7_find 94 = .ok (.aload_n 0, 1) := by decide +kernel
theorem dX7_find_95 : decode cX7_find 95 = .ok (.iload_n 1, 1) := by decide +kernel
theorem dX7_find_96 : decode cX7_find 96 = .ok (.iload 5, 2) := by decide +kernel
theorem dX7_find_98 : decode cX7_find 98 = .ok (.invokevirtual 155, 3) := by decide +kernel
theorem dX7_find_101 : decode cX7_find 101 = .ok (.aload_n 0, 1) := by decide +kernel
theorem dX7_find_102 : decode cX7_find 102 = .ok (.iload 4, 2) := by decide +kernel
theorem dX7_find_104 : decode cX7_find 104 = .ok (.lload_n 2, 1) := by decide +kernel
theorem dX7_find_105 : decode cX7_find 105 = .ok (.invokevirtual 146, 3) := by decide +kernel
theorem dX7_find_108 : decode cX7_find 108 = .ok (.lcmp, 1) := by decide +kernel
theorem dX7_find_109 : decode cX7_find 109 = .ok (.ifCond .ne 6, 3) := by decide +kernel
theorem dX7_find_112 : decode cX7_find 112 = .ok (.iload 5, 2) := by decide +kernel
theorem dX7_find_114 : decode cX7_find 114 = .ok (.ireturn, 1) := by decide +kernel
theorem dX7_find_115 : decode cX7_find 115 = .ok (.iinc 5 1, 3) := by decide +kernel
theorem dX7_find_118 : decode cX7_find 118 = .ok (.goto (-34), 3) := by decide +kernel
theorem dX7_find_121 : decode cX7_find 121 = .ok (.iconst (-1), 1) := by decide +kernel
theorem dX7_find_122 : decode cX7_find 122 = .ok (.ireturn, 1) := by decide +kernel
theorem dX7_isInterval_0 : decode cX7_isInterval 0 = .ok (.aload_n 0, 1) := by decide +kernel
theorem dX7_isInterval_1 : decode cX7_isInterval 1 = .ok (.getfield 51, 3) := by decide +kernel
theorem dX7_isInterval_4 : decode cX7_isInterval 4 = .ok (.iload_n 1, 1) := by decide +kernel
theorem dX7_isInterval_5 : decode cX7_isInterval 5 = .ok (.iaload, 1) := by decide +kernel
theorem dX7_isInterval_6 : decode cX7_isInterval 6 = .ok (.istore_n 3, 1) := by decide +kernel
theorem dX7_isInterval_7 : decode cX7_isInterval 7 = .ok (.aload_n 0, 1) := by decide +kernel
theorem dX7_isInterval_8 : decode cX7_isInterval 8 = .ok (.iload_n 1, 1) := by decide +kernel
theorem dX7_isInterval_9 : decode cX7_isInterval 9 = .ok (.iconst 2, 1) := by decide +kernel
theorem dX7_isInterval_10 : decode cX7_isInterval 10 = .ok (.iload_n 2, 1) := by decide +kernel
theorem dX7_isInterval_11 : decode cX7_isInterval 11 = .ok (.imul, 1) := by decide +kernel
theorem dX7_isInterval_12 : decode cX7_isInterval 12 = .ok (.invokevirtual 155, 3) := by decide +kernel
theorem dX7_isInterval_15 : decode cX7_isInterval 15 = .ok (.lstore 4, 2) := by decide +kernel
theorem dX7_isInterval_17 : decode cX7_isInterval 17 = .ok (.aload_n 0, 1) := by decide +kernel
theorem dX7_isInterval_18 : decode cX7_isInterval 18 = .ok (.iload_n 1, 1) := by decide +kernel
theorem dX7_isInterval_19 : decode cX7_isInterval 19 = .ok (.iconst 2, 1) := by decide +kernel
theorem dX7_isInterval_20 : decode cX7_isInterval 20 = .ok (.iload_n 2, 1) := by decide +kernel
theorem dX7_isInterval_21 : decode cX7_isInterval 21 = .ok (.imul, 1) := by decide +kernel
theorem dX7_isInterval_22 : decode cX7_isInterval 22 = .ok (.iconst 1, 1) := by decide +kernel
theorem dX7_isInterval_23 : decode cX7_isInterval 23 = .ok (.iadd, 1) := by decide +kernel
theorem dX7_isInterval_24 : decode cX7_isInterval 24 = .ok (.invokevirtual 155, 3) := by decide +kernel
theorem dX7_isInterval_27 : decode cX7_isInterval 27 = .ok (.lstore 6, 2) := by decide +kernel
theorem dX7_isInterval_29 : decode cX7_isInterval 29 = .ok (.aload_n 0, 1) := by decide +kernel
theorem dX7_isInterval_30 : decode cX7_isInterval 30 = .ok (.iload_n 3, 1) := by decide +kernel
theorem dX7_isInterval_31 : decode cX7_isInterval 31 = .ok (.lload 4, 2) := by decide +kernel
theorem dX7_isInterval_33 : decode cX7_isInterval 33 = .ok (.invokevirtual 98, 3) := by decide +kernel
theorem dX7_isInterval_36 : decode cX7_isInterval 36 = .ok (.ifCond .ne 35, 3) := by decide +kernel
theorem dX7_isInterval_39 : decode cX7_isInterval 39 = .ok (.aload_n 0, 1) := by decide +kernel
theorem dX7_isInterval_40 : decode cX7_isInterval 40 = .ok (.iload_n 3, 1) := by decide +kernel
theorem dX7_isInterval_41 : decode cX7_isInterval 41 = .ok (.lload 6, 2) := by decide +kernel
theorem dX7_isInterval_43 : decode cX7_isInterval 43 = .ok (.invokevirtual 98, 3) := by decide +kernel
theorem dX7_isInterval_46 : decode cX7_isInterval 46 = .ok (.ifCond .ne 25, 3) := by decide +kernel
theorem dX7_isInterval_49 : decode cX7_isInterval 49 = .ok (.aload_n 0, 1) := by decide +kernel
theorem dX7_isInterval_50 : decode cX7_isInterval 50 = .ok (.iload_n 3, 1) := by decide +kernel
theorem dX7_isInterval_51 : decode cX7_isInterval 51 = .ok (.lload 4, 2) := by decide +kernel
theorem dX7_isInterval_53 : decode cX7_isInterval 53 = .ok (.invokevirtual 133, 3) := by decide +kernel
theorem dX7_isInterval_56 : decode cX7_isInterval 56 = .ok (.aload_n 0, 1) := by decide +kernel
theorem dX7_isInterval_57 : decode cX7_isInterval 57 = .ok (.iload_n 3, 1) := by decide +kernel
theorem dX7_isInterval_58 : decode cX7_isInterval 58 = .ok (.lload 6, 2) := by decide +kernel
theorem dX7_isInterval_60 : decode cX7_isInterval 60 = .ok (.invokevirtual 133, 3) := by decide +kernel
theorem dX7_isInterval_63 : decode cX7_isInterval 63 = .ok (.lcmp, 1) := by decide +kernel
theorem dX7_isInterval_64 : decode cX7_isInterval 64 = .ok (.ifCond .gt 7, 3) := by decide +kernel
theorem dX7_isInterval_67 : decode cX7_isInterval 67 = .ok (.iconst 1, 1) := by decide +kernel
theorem dX7_isInterval_68 : decode cX7_isInterval 68 = .ok (.goto 4, 3) := by decide +kernel
theorem dX7_isInterval_71 : decode cX7_isInterval 71 = .ok (.iconst 0, 1) := by decide +kernel
theorem dX7_isInterval_72 : decode cX7_isInterval 72 = .ok (.ireturn, 1) := by decide +kernel
theorem dX7_bounds_0 : decode cX7_bounds 0 = .ok (.aload_n 0, 1) := by decide +kernel
theorem dX7_bounds_1 : decode cX7_bounds 1 = .ok (.getfield 54, 3) := by decide +kernel
theorem dX7_bounds_4 : decode cX7_bounds 4 = .ok (.aload_n 0, 1) := by decide +kernel
theorem dX7_bounds_5 : decode cX7_bounds 5 = .ok (.getfield 48, 3) := by decide +kernel
theorem dX7_bounds_8 : decode cX7_bounds 8 = .ok (.iload_n 1, 1) := by decide +kernel
theorem dX7_bounds_9 : decode cX7_bounds 9 = .ok (.iaload, 1) := by decide +kernel
theorem dX7_bounds_10 : decode cX7_bounds 10 = .ok (.iconst 2, 1) := by decide +kernel
theorem dX7_bounds_11 : decode cX7_bounds 11 = .ok (.iload_n 2, 1) := by decide +kernel
theorem dX7_bounds_12 : decode cX7_bounds 12 = .ok (.imul, 1) := by decide +kernel
theorem dX7_bounds_13 : decode cX7_bounds 13 = .ok (.iadd, 1) := by decide +kernel
theorem dX7_bounds_14 : decode cX7_bounds 14 = .ok (.lload_n 3, 1) := by decide +kernel
theorem dX7_bounds_15 : decode cX7_bounds 15 = .ok (.lastore, 1) := by decide +kernel
theorem dX7_bounds_16 : decode cX7_bounds 16 = .ok (.aload_n 0, 1) := by decide +kernel
theorem dX7_bounds_17 : decode cX7_bounds 17 = .ok (.getfield 54, 3) := by decide +kernel
theorem dX7_bounds_20 : decode cX7_bounds 20 = .ok (.aload_n 0, 1) := by decide +kernel
theorem dX7_bounds_21 : decode cX7_bounds 21 = .ok (.getfield 48, 3) := by decide +kernel
theorem dX7_bounds_24 : decode cX7_bounds 24 = .ok (.iload_n 1, 1) := by decide +kernel
theorem dX7_bounds_25 : decode cX7_bounds 25 = .ok (.iaload, 1) := by decide +kernel
theorem dX7_bounds_26 : decode cX7_bounds 26 = .ok (.iconst 2, 1) := by decide +kernel
theorem dX7_bounds_27 : decode cX7_bounds 27 = .ok (.iload_n 2, 1) := by decide +kernel
theorem dX7_bounds_28 : decode cX7_bounds 28 = .ok (.imul, 1) := by decide +kernel
theorem dX7_bounds_29 : decode cX7_bounds 29 = .ok (.iadd, 1) := by decide +kernel
theorem dX7_bounds_30 : decode cX7_bounds 30 = .ok (.iconst 1, 1) := by decide +kernel
theorem dX7_bounds_31 : decode cX7_bounds 31 = .ok (.iadd, 1) := by decide +kernel
theorem dX7_bounds_32 : decode cX7_bounds 32 = .ok (.lload 5, 2) := by decide +kernel
theorem dX7_bounds_34 : decode cX7_bounds 34 = .ok (.lastore, 1) := by decide +kernel
theorem dX7_bounds_35 : decode cX7_bounds 35 = .ok (.return_, 1) := by decide +kernel
theorem dX7_noPair_0 : decode cX7_noPair 0 = .ok (.iload_n 2, 1) := by decide +kernel
theorem dX7_noPair_1 : decode cX7_noPair 1 = .ok (.ifCond .lt 14, 3) := by decide +kernel
theorem dX7_noPair_4 : decode cX7_noPair 4 = .ok (.iload_n 2, 1) := by decide +kernel
theorem dX7_noPair_5 : decode cX7_noPair 5 = .ok (.aload_n 0, 1) := by decide +kernel
theorem dX7_noPair_6 : decode cX7_noPair 6 = .ok (.iload_n 1, 1) := by decide +kernel
theorem dX7_noPair_7 : decode cX7_noPair 7 = .ok (.invokevirtual 82, 3) := by decide +kernel
theorem dX7_noPair_10 : decode cX7_noPair 10 = .ok (.iconst 2, 1) := by decide +kernel
theorem dX7_noPair_11 : decode cX7_noPair 11 = .ok (.idiv, 1) := by decide +kernel
theorem dX7_noPair_12 : decode cX7_noPair 12 = .ok (.if_icmp .lt 7, 3) := by decide +kernel
theorem dX7_noPair_15 : decode cX7_noPair 15 = .ok (.iconst 1, 1) := by decide +kernel
theorem dX7_noPair_16 : decode cX7_noPair 16 = .ok (.goto 4, 3) := by decide +kernel
theorem dX7_noPair_19 : decode cX7_noPair 19 = .ok (.iconst 0, 1) := by decide +kernel
theorem dX7_noPair_20 : decode cX7_noPair 20 = .ok (.ireturn, 1) := by decide +kernel
theorem dX7_interval_0 : decode cX7_interval 0 = .ok (.iload_n 1, 1) := by decide +kernel
theorem dX7_interval_1 : decode cX7_interval 1 = .ok (.ifCond .lt 11, 3) := by decide +kernel
theorem dX7_interval_4 : decode cX7_interval 4 = .ok (.iload_n 1, 1) := by decide +kernel
theorem dX7_interval_5 : decode cX7_interval 5 = .ok (.aload_n 0, 1) := by decide +kernel
theorem dX7_interval_6 : decode cX7_interval 6 = .ok (.getfield 79, 3) := by decide +kernel
theorem dX7_interval_9 : decode cX7_interval 9 = .ok (.if_icmp .lt 7, 3) := by decide +kernel
theorem dX7_interval_12 : decode cX7_interval 12 = .ok (.iconst 1, 1) := by decide +kernel
theorem dX7_interval_13 : decode cX7_interval 13 = .ok (.goto 37, 3) := by decide +kernel
theorem dX7_interval_16 : decode cX7_interval 16 = .ok (.aload_n 0, 1) := by decide +kernel
theorem dX7_interval_17 : decode cX7_interval 17 = .ok (.iload_n 1, 1) := by decide +kernel
theorem dX7_interval_18 : decode cX7_interval 18 = .ok (.iload_n 2, 1) := by decide +kernel
theorem dX7_interval_19 : decode cX7_interval 19 = .ok (.invokevirtual 222, 3) := by decide +kernel
theorem dX7_interval_22 : decode cX7_interval 22 = .ok (.ifCond .ne 23, 3) := by decide +kernel
theorem dX7_interval_25 : decode cX7_interval 25 = .ok (.aload_n 0, 1) := by decide +kernel
theorem dX7_interval_26 : decode cX7_interval 26 = .ok (.iload_n 1, 1) := by decide +kernel
theorem dX7_interval_27 : decode cX7_interval 27 = .ok (.iload_n 3, 1) := by decide +kernel
theorem dX7_interval_28 : decode cX7_interval 28 = .ok (.invokevirtual 222, 3) := by decide +kernel
theorem dX7_interval_31 : decode cX7_interval 31 = .ok (.ifCond .ne 14, 3) := by decide +kernel
theorem dX7_interval_34 : decode cX7_interval 34 = .ok (.iload 4, 2) := by decide +kernel
theorem dX7_interval_36 : decode cX7_interval 36 = .ok (.ifCond .lt 9, 3) := by decide +kernel
theorem dX7_interval_39 : decode cX7_interval 39 = .ok (.iload 4, 2) := by decide +kernel
theorem dX7_interval_41 : decode cX7_interval 41 = .ok (.iconst 5, 1) := by decide +kernel
theorem dX7_interval_42 : decode cX7_interval 42 = .ok (.if_icmp .le 7, 3) := by decide +kernel
theorem dX7_interval_45 : decode cX7_interval 45 = .ok (.iconst 2, 1) := by decide +kernel
theorem dX7_interval_46 : decode cX7_interval 46 = .ok (.goto 4, 3) := by decide +kernel
theorem dX7_interval_49 : decode cX7_interval 49 = .ok (.iconst 0, 1) := by decide +kernel
theorem dX7_interval_50 : decode cX7_interval 50 = .ok (.istore 5, 2) := by decide +kernel
theorem dX7_interval_52 : decode cX7_interval 52 = .ok (.iload 5, 2) := by decide +kernel
theorem dX7_interval_54 : decode cX7_interval 54 = .ok (.ifCond .le 10, 3) := by decide +kernel
theorem dX7_interval_57 : decode cX7_interval 57 = .ok (.aload_n 0, 1) := by decide +kernel
theorem dX7_interval_58 : decode cX7_interval 58 = .ok (.iload 5, 2) := by decide +kernel
theorem dX7_interval_60 : decode cX7_interval 60 = .ok (.invokevirtual 139, 3) := by decide +kernel
theorem dX7_interval_63 : decode cX7_interval 63 = .ok (.ireturn, 1) := by decide +kernel
theorem dX7_interval_64 : decode cX7_interval 64 = .ok (.aload_n 0, 1) := by decide +kernel
theorem dX7_interval_65 : decode cX7_interval 65 = .ok (.iconst 0, 1) := by decide +kernel
theorem dX7_interval_66 : decode cX7_interval 66 = .ok (.putfield 75, 3) := by decide +kernel
theorem dX7_interval_69 : decode cX7_interval 69 = .ok (.aload_n 0, 1) := by decide +kernel
theorem dX7_interval_70 : decode cX7_interval 70 = .ok (.getfield 51, 3) := by decide +kernel
theorem dX7_interval_73 : decode cX7_interval 73 = .ok (.iload_n 1, 1) := by decide +kernel
theorem dX7_interval_74 : decode cX7_interval 74 = .ok (.iaload, 1) := by decide +kernel
theorem dX7_interval_75 : decode cX7_interval 75 = .ok (.istore 6, 2) := by decide +kernel
theorem dX7_interval_77 : decode cX7_interval 77 = .ok (.aload_n 0, 1) := by decide +kernel
theorem dX7_interval_78 : decode cX7_interval 78 = .ok (.iload_n 1, 1) := by decide +kernel
theorem dX7_interval_79 : decode cX7_interval 79 = .ok (.iconst 2, 1) := by decide +kernel
theorem dX7_interval_80 : decode cX7_interval 80 = .ok (.iload_n 2, 1) := by decide +kernel
theorem dX7_interval_81 : decode cX7_interval 81 = .ok (.imul, 1) := by decide +kernel
theorem dX7_interval_82 : decode cX7_interval 82 = .ok (.invokevirtual 155, 3) := by decide +kernel
theorem dX7_interval_85 : decode cX7_interval 85 = .ok (.lstore 7, 2) := by decide +kernel
theorem dX7_interval_87 : decode cX7_interval 87 = .ok (.aload_n 0, 1) := by decide +kernel
theorem dX7_interval_88 : decode cX7_interval 88 = .ok (.iload_n 1, 1) := by decide +kernel
theorem dX7_interval_89 : decode cX7_interval 89 = .ok (.iconst 2, 1) := by decide +kernel
theorem dX7_interval_90 : decode cX7_interval 90 = .ok (.iload_n 2, 1) := by decide +kernel
theorem dX7_interval_91 : decode cX7_interval 91 = .ok (.imul, 1) := by decide +kernel
theorem dX7_interval_92 : decode cX7_interval 92 = .ok (.iconst 1, 1) := by decide +kernel
theorem dX7_interval_93 : decode cX7_interval 93 = .ok (.iadd, 1) := by decide +kernel
theorem dX7_interval_94 : decode cX7_interval 94 = .ok (.invokevirtual 155, 3) := by decide +kernel
theorem dX7_interval_97 : decode cX7_interval 97 = .ok (.lstore 9, 2) := by decide +kernel
theorem dX7_interval_99 : decode cX7_interval 99 = .ok (.aload_n 0, 1) := by decide +kernel
theorem dX7_interval_100 : decode cX7_interval 100 = .ok (.iload_n 1, 1) := by decide +kernel
theorem dX7_interval_101 : decode cX7_interval 101 = .ok (.iconst 2, 1) := by decide +kernel
theorem dX7_interval_102 : decode cX7_interval 102 = .ok (.iload_n 3, 1) := by decide +kernel
theorem dX7_interval_103 : decode cX7_interval 103 = .ok (.imul, 1) := by decide +kernel
theorem dX7_interval_104 : decode cX7_interval 104 = .ok (.invokevirtual 155, 3) := by decide +kernel
theorem dX7_interval_107 : decode cX7_interval 107 = .ok (.lstore 11, 2) := by decide +kernel
theorem dX7_interval_109 : decode cX7_interval 109 = .ok (.aload_n 0, 1) := by decide +kernel
theorem dX7_interval_110 : decode cX7_interval 110 = .ok (.iload_n 1, 1) := by decide +kernel
theorem dX7_interval_111 : decode cX7_interval 111 = .ok (.iconst 2, 1) := by decide +kernel
theorem dX7_interval_112 : decode cX7_interval 112 = .ok (.iload_n 3, 1) := by decide +kernel
theorem dX7_interval_113 : decode cX7_interval 113 = .ok (.imul, 1) := by decide +kernel
theorem dX7_interval_114 : decode cX7_interval 114 = .ok (.iconst 1, 1) := by decide +kernel
theorem dX7_interval_115 : decode cX7_interval 115 = .ok (.iadd, 1) := by decide +kernel
theorem dX7_interval_116 : decode cX7_interval 116 = .ok (.invokevirtual 155, 3) := by decide +kernel
theorem dX7_interval_119 : decode cX7_interval 119 = .ok (.lstore 13, 2) := by decide +kernel
theorem dX7_interval_121 : decode cX7_interval 121 = .ok (.aload_n 0, 1) := by decide +kernel
theorem dX7_interval_122 : decode cX7_interval 122 = .ok (.iload_n 1, 1) := by decide +kernel
theorem dX7_interval_123 : decode cX7_interval 123 = .ok (.iload_n 2, 1) := by decide +kernel
theorem dX7_interval_124 : decode cX7_interval 124 = .ok (.invokevirtual 225, 3) := by decide +kernel
theorem dX7_interval_127 : decode cX7_interval 127 = .ok (.ifCond .eq 44, 3) := by decide +kernel
theorem dX7_interval_130 : decode cX7_interval 130 = .ok (.aload_n 0, 1) := by decide +kernel
theorem dX7_interval_131 : decode cX7_interval 131 = .ok (.iload_n 1, 1) := by decide +kernel
theorem dX7_interval_132 : decode cX7_interval 132 = .ok (.iload_n 3, 1) := by decide +kernel
theorem dX7_interval_133 : decode cX7_interval 133 = .ok (.invokevirtual 225, 3) := by decide +kernel
theorem dX7_interval_136 : decode cX7_interval 136 = .ok (.ifCond .eq 35, 3) := by decide +kernel
theorem dX7_interval_139 : decode cX7_interval 139 = .ok (.iload 4, 2) := by decide +kernel
theorem dX7_interval_141 : decode cX7_interval 141 = .ok (.iconst 3, 1) := by decide +kernel
theorem dX7_interval_142 : decode cX7_interval 142 = .ok (.if_icmp .ne 58, 3) := by decide +kernel
theorem dX7_interval_145 : decode cX7_interval 145 = .ok (.aload_n 0, 1) := by decide +kernel
theorem dX7_interval_146 : decode cX7_interval 146 = .ok (.iload 6, 2) := by decide +kernel
theorem dX7_interval_148 : decode cX7_interval 148 = .ok (.lload 11, 2) := by decide +kernel
theorem dX7_interval_150 : decode cX7_interval 150 = .ok (.invokevirtual 133, 3) := by decide +kernel
theorem dX7_interval_153 : decode cX7_interval 153 = .ok (.lconst 0, 1) := by decide +kernel
theorem dX7_interval_154 : decode cX7_interval 154 = .ok (.lcmp, 1) := by decide +kernel
theorem dX7_interval_155 : decode cX7_interval 155 = .ok (.ifCond .gt 45, 3) := by decide +kernel
theorem dX7_interval_158 : decode cX7_interval 158 = .ok (.aload_n 0, 1) := by decide +kernel
theorem dX7_interval_159 : decode cX7_interval 159 = .ok (.iload 6, 2) := by decide +kernel
theorem dX7_interval_161 : decode cX7_interval 161 = .ok (.lload 13, 2) := by decide +kernel
theorem dX7_interval_163 : decode cX7_interval 163 = .ok (.invokevirtual 133, 3) := by decide +kernel
theorem dX7_interval_166 : decode cX7_interval 166 = .ok (.lconst 0, 1) := by decide +kernel
theorem dX7_interval_167 : decode cX7_interval 167 = .ok (.lcmp, 1) := by decide +kernel
theorem dX7_interval_168 : decode cX7_interval 168 = .ok (.ifCond .lt 32, 3) := by decide +kernel
theorem dX7_interval_171 : decode cX7_interval 171 = .ok (.aload_n 0, 1) := by decide +kernel
theorem dX7_interval_172 : decode cX7_interval 172 = .ok (.iload_n 1, 1) := by decide +kernel
theorem dX7_interval_173 : decode cX7_interval 173 = .ok (.iload_n 2, 1) := by decide +kernel
theorem dX7_interval_174 : decode cX7_interval 174 = .ok (.aload_n 0, 1) := by decide +kernel
theorem dX7_interval_175 : decode cX7_interval 175 = .ok (.iload 6, 2) := by decide +kernel
theorem dX7_interval_177 : decode cX7_interval 177 = .ok (.aload_n 0, 1) := by decide +kernel
theorem dX7_interval_178 : decode cX7_interval 178 = .ok (.getfield 31, 3) := by decide +kernel
theorem dX7_interval_181 : decode cX7_interval 181 = .ok (.iload 6, 2) := by decide +kernel
theorem dX7_interval_183 : decode cX7_interval 183 = .ok (.laload, 1) := by decide +kernel
theorem dX7_interval_184 : decode cX7_interval 184 = .ok (.iconst 1, 1) := by decide +kernel
theorem dX7_interval_185 : decode cX7_interval 185 = .ok (.invokevirtual 111, 3) := by decide +kernel
theorem dX7_interval_188 : decode cX7_interval 188 = .ok (.aload_n 0, 1) := by decide +kernel
theorem dX7_interval_189 : decode cX7_interval 189 = .ok (.getfield 31, 3) := by decide +kernel
theorem dX7_interval_192 : decode cX7_interval 192 = .ok (.iload 6, 2) := by decide +kernel
theorem dX7_interval_194 : decode cX7_interval 194 = .ok (.laload, 1) := by decide +kernel
theorem dX7_interval_195 : decode cX7_interval 195 = .ok (.invokevirtual 228, 3) := by decide +kernel
theorem dX7_interval_198 : decode cX7_interval 198 = .ok (.iconst 1, 1) := by decide +kernel
theorem dX7_interval_199 : decode cX7_interval 199 = .ok (.ireturn, 1) := by decide +kernel
theorem dX7_interval_200 : decode cX7_interval 200 = .ok (.iload 4, 2) := by decide +kernel
theorem dX7_interval_202 : decode cX7_interval 202 = .ok (.iconst 4, 1) := by decide +kernel
theorem dX7_interval_203 : decode cX7_interval 203 = .ok (.if_icmp .ne 31, 3) := by decide +kernel
theorem dX7_interval_206 : decode cX7_interval 206 = .ok (.aload_n 0, 1) := by decide +kernel
theorem dX7_interval_207 : decode cX7_interval 207 = .ok (.iload_n 1, 1) := by decide +kernel
theorem dX7_interval_208 : decode cX7_interval 208 = .ok (.iload_n 2, 1) := by decide +kernel
theorem dX7_interval_209 : decode cX7_interval 209 = .ok (.aload_n 0, 1) := by decide +kernel
theorem dX7_interval_210 : decode cX7_interval 210 = .ok (.iload 6, 2) := by decide +kernel
theorem dX7_interval_212 : decode cX7_interval 212 = .ok (.lload 7, 2) := by decide +kernel
theorem dX7_interval_214 : decode cX7_interval 214 = .ok (.lload 11, 2) := by decide +kernel
theorem dX7_interval_216 : decode cX7_interval 216 = .ok (.invokevirtual 190, 3) := by decide +kernel
theorem dX7_interval_219 : decode cX7_interval 219 = .ok (.aload_n 0, 1) := by decide +kernel
theorem dX7_interval_220 : decode cX7_interval 220 = .ok (.iload 6, 2) := by decide +kernel
theorem dX7_interval_222 : decode cX7_interval 222 = .ok (.lload 9, 2) := by decide +kernel
theorem dX7_interval_224 : decode cX7_interval 224 = .ok (.lload 13, 2) := by decide +kernel
theorem dX7_interval_226 : decode cX7_interval 226 = .ok (.invokevirtual 187, 3) := by decide +kernel
theorem dX7_interval_229 : decode cX7_interval 229 = .ok (.invokevirtual 228, 3) := by decide +kernel
theorem dX7_interval_232 : decode cX7_interval 232 = .ok (.iconst 0, 1) := by decide +kernel
theorem dX7_interval_233 : decode cX7_interval 233 = .ok (.ireturn, 1) := by decide +kernel
theorem dX7_interval_234 : decode cX7_interval 234 = .ok (.iload 4, 2) := by decide +kernel
theorem dX7_interval_236 : decode cX7_interval 236 = .ok (.iconst 5, 1) := by decide +kernel
theorem dX7_interval_237 : decode cX7_interval 237 = .ok (.if_icmp .ne 30, 3) := by decide +kernel
theorem dX7_interval_240 : decode cX7_interval 240 = .ok (.aload_n 0, 1) := by decide +kernel
theorem dX7_interval_241 : decode cX7_interval 241 = .ok (.iload_n 1, 1) := by decide +kernel
theorem dX7_interval_242 : decode cX7_interval 242 = .ok (.iload_n 2, 1) := by decide +kernel
theorem dX7_interval_243 : decode cX7_interval 243 = .ok (.aload_n 0, 1) := by decide +kernel
theorem dX7_interval_244 : decode cX7_interval 244 = .ok (.iload 6, 2) := by decide +kernel
theorem dX7_interval_246 : decode cX7_interval 246 = .ok (.lload 7, 2) := by decide +kernel
theorem dX7_interval_248 : decode cX7_interval 248 = .ok (.lload 11, 2) := by decide +kernel
theorem dX7_interval_250 : decode cX7_interval 250 = .ok (.invokevirtual 187, 3) := by decide +kernel
theorem dX7_interval_253 : decode cX7_interval 253 = .ok (.aload_n 0, 1) := by decide +kernel
theorem dX7_interval_254 : decode cX7_interval 254 = .ok (.iload 6, 2) := by decide +kernel
theorem dX7_interval_256 : decode cX7_interval 256 = .ok (.lload 9, 2) := by decide +kernel
theorem dX7_interval_258 : decode cX7_interval 258 = .ok (.lload 13, 2) := by decide +kernel
theorem dX7_interval_260 : decode cX7_interval 260 = .ok (.invokevirtual 190, 3) := by decide +kernel
theorem dX7_interval_263 : decode cX7_interval 263 = .ok (.invokevirtual 232, 3) := by decide +kernel
theorem dX7_interval_266 : decode cX7_interval 266 = .ok (.ireturn, 1) := by decide +kernel
theorem dX7_interval_267 : decode cX7_interval 267 = .ok (.aload_n 0, 1) := by decide +kernel
theorem dX7_interval_268 : decode cX7_interval 268 = .ok (.iload 6, 2) := by decide +kernel
theorem dX7_interval_270 : decode cX7_interval 270 = .ok (.lload 7, 2) := by decide +kernel
theorem dX7_interval_272 : decode cX7_interval 272 = .ok (.iload 4, 2) := by decide +kernel
theorem dX7_interval_274 : decode cX7_interval 274 = .ok (.ifCond .ne 8, 3) := by decide +kernel
theorem dX7_interval_277 : decode cX7_interval 277 = .ok (.lload 11, 2) := by decide +kernel
theorem dX7_interval_279 : decode cX7_interval 279 = .ok (.goto 11, 3) := by decide +kernel
theorem dX7_interval_282 : decode cX7_interval 282 = .ok (.aload_n 0, 1) := by decide +kernel
theorem dX7_interval_283 : decode cX7_interval 283 = .ok (.iload 6, 2) := by decide +kernel
theorem dX7_interval_285 : decode cX7_interval 285 = .ok (.lload 13, 2) := by decide +kernel
theorem dX7_interval_287 : decode cX7_interval 287 = .ok (.invokevirtual 200, 3) := by decide +kernel
theorem dX7_interval_290 : decode cX7_interval 290 = .ok (.invokevirtual 197, 3) := by decide +kernel
theorem dX7_interval_293 : decode cX7_interval 293 = .ok (.lstore 15, 2) := by decide +kernel
theorem dX7_interval_295 : decode cX7_interval 295 = .ok (.aload_n 0, 1) := by decide +kernel
theorem dX7_interval_296 : decode cX7_interval 296 = .ok (.iload 6, 2) := by decide +kernel
theorem dX7_interval_298 : decode cX7_interval 298 = .ok (.lload 9, 2) := by decide +kernel
theorem dX7_interval_300 : decode cX7_interval 300 = .ok (.iload 4, 2) := by decide +kernel
theorem dX7_interval_302 : decode cX7_interval 302 = .ok (.ifCond .ne 8, 3) := by decide +kernel
theorem dX7_interval_305 : decode cX7_interval 305 = .ok (.lload 13, 2) := by decide +kernel
theorem dX7_interval_307 : decode cX7_interval 307 = .ok (.goto 11, 3) := by decide +kernel
theorem dX7_interval_310 : decode cX7_interval 310 = .ok (.aload_n 0, 1) := by decide +kernel
theorem dX7_interval_311 : decode cX7_interval 311 = .ok (.iload 6, 2) := by decide +kernel
theorem dX7_interval_313 : decode cX7_interval 313 = .ok (.lload 11, 2) := by decide +kernel
theorem dX7_interval_315 : decode cX7_interval 315 = .ok (.invokevirtual 200, 3) := by decide +kernel
theorem dX7_interval_318 : decode cX7_interval 318 = .ok (.invokevirtual 197, 3) := by decide +kernel
theorem dX7_interval_321 : decode cX7_interval 321 = .ok (.lstore 17, 2) := by decide +kernel
theorem dX7_interval_323 : decode cX7_interval 323 = .ok (.iload 4, 2) := by decide +kernel
theorem dX7_interval_325 : decode cX7_interval 325 = .ok (.iconst 1, 1) := by decide +kernel
theorem dX7_interval_326 : decode cX7_interval 326 = .ok (.if_icmp .le 115, 3) := by decide +kernel
theorem dX7_interval_329 : decode cX7_interval 329 = .ok (.aload_n 0, 1) := by decide +kernel
theorem dX7_interval_330 : decode cX7_interval 330 = .ok (.iload 6, 2) := by decide +kernel
theorem dX7_interval_332 : decode cX7_interval 332 = .ok (.iload 4, 2) := by decide +kernel
theorem dX7_interval_334 : decode cX7_interval 334 = .ok (.lload 7, 2) := by decide +kernel
theorem dX7_interval_336 : decode cX7_interval 336 = .ok (.lload 11, 2) := by decide +kernel
theorem dX7_interval_338 : decode cX7_interval 338 = .ok (.invokevirtual 236, 3) := by decide +kernel
theorem dX7_interval_341 : decode cX7_interval 341 = .ok (.lstore 19, 2) := by decide +kernel
theorem dX7_interval_343 : decode cX7_interval 343 = .ok (.aload_n 0, 1) := by decide +kernel
theorem dX7_interval_344 : decode cX7_interval 344 = .ok (.iload 6, 2) := by decide +kernel
theorem dX7_interval_346 : decode cX7_interval 346 = .ok (.iload 4, 2) := by decide +kernel
theorem dX7_interval_348 : decode cX7_interval 348 = .ok (.lload 7, 2) := by decide +kernel
theorem dX7_interval_350 : decode cX7_interval 350 = .ok (.lload 13, 2) := by decide +kernel
theorem dX7_interval_352 : decode cX7_interval 352 = .ok (.invokevirtual 236, 3) := by decide +kernel
theorem dX7_interval_355 : decode cX7_interval 355 = .ok (.lstore 21, 2) := by decide +kernel
theorem dX7_interval_357 : decode cX7_interval 357 = .ok (.aload_n 0, 1) := by decide +kernel
theorem dX7_interval_358 : decode cX7_interval 358 = .ok (.iload 6, 2) := by decide +kernel
theorem dX7_interval_360 : decode cX7_interval 360 = .ok (.iload 4, 2) := by decide +kernel
theorem dX7_interval_362 : decode cX7_interval 362 = .ok (.lload 9, 2) := by decide +kernel
theorem dX7_interval_364 : decode cX7_interval 364 = .ok (.lload 11, 2) := by decide +kernel
theorem dX7_interval_366 : decode cX7_interval 366 = .ok (.invokevirtual 236, 3) := by decide +kernel
theorem dX7_interval_369 : decode cX7_interval 369 = .ok (.lstore 23, 2) := by decide +kernel
theorem dX7_interval_371 : decode cX7_interval 371 = .ok (.aload_n 0, 1) := by decide +kernel
theorem dX7_interval_372 : decode cX7_interval 372 = .ok (.iload 6, 2) := by decide +kernel
theorem dX7_interval_374 : decode cX7_interval 374 = .ok (.iload 4, 2) := by decide +kernel
theorem dX7_interval_376 : decode cX7_interval 376 = .ok (.lload 9, 2) := by decide +kernel
theorem dX7_interval_378 : decode cX7_interval 378 = .ok (.lload 13, 2) := by decide +kernel
theorem dX7_interval_380 : decode cX7_interval 380 = .ok (.invokevirtual 236, 3) := by decide +kernel
theorem dX7_interval_383 : decode cX7_interval 383 = .ok (.lstore 25, 2) := by decide +kernel
theorem dX7_interval_385 : decode cX7_interval 385 = .ok (.aload_n 0, 1) := by decide +kernel
theorem dX7_interval_386 : decode cX7_interval 386 = .ok (.iload 6, 2) := by decide +kernel
theorem dX7_interval_388 : decode cX7_interval 388 = .ok (.aload_n 0, 1) := by decide +kernel
theorem dX7_interval_389 : decode cX7_interval 389 = .ok (.iload 6, 2) := by decide +kernel
theorem dX7_interval_391 : decode cX7_interval 391 = .ok (.lload 19, 2) := by decide +kernel
theorem dX7_interval_393 : decode cX7_interval 393 = .ok (.lload 21, 2) := by decide +kernel
theorem dX7_interval_395 : decode cX7_interval 395 = .ok (.invokevirtual 190, 3) := by decide +kernel
theorem dX7_interval_398 : decode cX7_interval 398 = .ok (.aload_n 0, 1) := by decide +kernel
theorem dX7_interval_399 : decode cX7_interval 399 = .ok (.iload 6, 2) := by decide +kernel
theorem dX7_interval_401 : decode cX7_interval 401 = .ok (.lload 23, 2) := by decide +kernel
theorem dX7_interval_403 : decode cX7_interval 403 = .ok (.lload 25, 2) := by decide +kernel
theorem dX7_interval_405 : decode cX7_interval 405 = .ok (.invokevirtual 190, 3) := by decide +kernel
theorem dX7_interval_408 : decode cX7_interval 408 = .ok (.invokevirtual 190, 3) := by decide +kernel
theorem dX7_interval_411 : decode cX7_interval 411 = .ok (.lstore 15, 2) := by decide +kernel
theorem dX7_interval_413 : decode cX7_interval 413 = .ok (.aload_n 0, 1) := by decide +kernel
theorem dX7_interval_414 : decode cX7_interval 414 = .ok (.iload 6, 2) := by decide +kernel
theorem dX7_interval_416 : decode cX7_interval 416 = .ok (.aload_n 0, 1) := by decide +kernel
theorem dX7_interval_417 : decode cX7_interval 417 = .ok (.iload 6, 2) := by decide +kernel
theorem dX7_interval_419 : decode cX7_interval 419 = .ok (.lload 19, 2) := by decide +kernel
theorem dX7_interval_421 : decode cX7_interval 421 = .ok (.lload 21, 2) := by decide +kernel
theorem dX7_interval_423 : decode cX7_interval 423 = .ok (.invokevirtual 187, 3) := by decide +kernel
theorem dX7_interval_426 : decode cX7_interval 426 = .ok (.aload_n 0, 1) := by decide +kernel
theorem dX7_interval_427 : decode cX7_interval 427 = .ok (.iload 6, 2) := by decide +kernel
theorem dX7_interval_429 : decode cX7_interval 429 = .ok (.lload 23, 2) := by decide +kernel
theorem dX7_interval_431 : decode cX7_interval 431 = .ok (.lload 25, 2) := by decide +kernel
theorem dX7_interval_433 : decode cX7_interval 433 = .ok (.invokevirtual 187, 3) := by decide +kernel
theorem dX7_interval_436 : decode cX7_interval 436 = .ok (.invokevirtual 187, 3) := by decide +kernel
theorem dX7_interval_439 : decode cX7_interval 439 = .ok (.lstore 17, 2) := by decide +kernel
theorem dX7_interval_441 : decode cX7_interval 441 = .ok (.aload_n 0, 1) := by decide +kernel
theorem dX7_interval_442 : decode cX7_interval 442 = .ok (.iload_n 1, 1) := by decide +kernel
theorem dX7_interval_443 : decode cX7_interval 443 = .ok (.iload_n 2, 1) := by decide +kernel
theorem dX7_interval_444 : decode cX7_interval 444 = .ok (.aload_n 0, 1) := by decide +kernel
theorem dX7_interval_445 : decode cX7_interval 445 = .ok (.iload 6, 2) := by decide +kernel
theorem dX7_interval_447 : decode cX7_interval 447 = .ok (.lload 15, 2) := by decide +kernel
theorem dX7_interval_449 : decode cX7_interval 449 = .ok (.invokevirtual 239, 3) := by decide +kernel
theorem dX7_interval_452 : decode cX7_interval 452 = .ok (.aload_n 0, 1) := by decide +kernel
theorem dX7_interval_453 : decode cX7_interval 453 = .ok (.iload 6, 2) := by decide +kernel
theorem dX7_interval_455 : decode cX7_interval 455 = .ok (.lload 17, 2) := by decide +kernel
theorem dX7_interval_457 : decode cX7_interval 457 = .ok (.invokevirtual 242, 3) := by decide +kernel
theorem dX7_interval_460 : decode cX7_interval 460 = .ok (.invokevirtual 228, 3) := by decide +kernel
theorem dX7_interval_463 : decode cX7_interval 463 = .ok (.iconst 0, 1) := by decide +kernel
theorem dX7_interval_464 : decode cX7_interval 464 = .ok (.ireturn, 1) := by decide +kernel
theorem dX7_meet_0 : decode cX7_meet 0 = .ok (.aload_n 0, 1) := by decide +kernel
theorem dX7_meet_1 : decode cX7_meet 1 = .ok (.getfield 51, 3) := by decide +kernel
theorem dX7_meet_4 : decode cX7_meet 4 = .ok (.iload_n 1, 1) := by decide +kernel
theorem dX7_meet_5 : decode cX7_meet 5 = .ok (.iaload, 1) := by decide +kernel
theorem dX7_meet_6 : decode cX7_meet 6 = .ok (.istore 7, 2) := by decide +kernel
theorem dX7_meet_8 : decode cX7_meet 8 = .ok (.aload_n 0, 1) := by decide +kernel
theorem dX7_meet_9 : decode cX7_meet 9 = .ok (.iload 7, 2) := by decide +kernel
theorem dX7_meet_11 : decode cX7_meet 11 = .ok (.lload_n 3, 1) := by decide +kernel
theorem dX7_meet_12 : decode cX7_meet 12 = .ok (.invokevirtual 133, 3) := by decide +kernel
theorem dX7_meet_15 : decode cX7_meet 15 = .ok (.aload_n 0, 1) := by decide +kernel
theorem dX7_meet_16 : decode cX7_meet 16 = .ok (.iload 7, 2) := by decide +kernel
theorem dX7_meet_18 : decode cX7_meet 18 = .ok (.lload 5, 2) := by decide +kernel
theorem dX7_meet_20 : decode cX7_meet 20 = .ok (.invokevirtual 133, 3) := by decide +kernel
theorem dX7_meet_23 : decode cX7_meet 23 = .ok (.lcmp, 1) := by decide +kernel
theorem dX7_meet_24 : decode cX7_meet 24 = .ok (.ifCond .le 7, 3) := by decide +kernel
theorem dX7_meet_27 : decode cX7_meet 27 = .ok (.iconst 1, 1) := by decide +kernel
theorem dX7_meet_28 : decode cX7_meet 28 = .ok (.goto 4, 3) := by decide +kernel
theorem dX7_meet_31 : decode cX7_meet 31 = .ok (.iconst 0, 1) := by decide +kernel
theorem dX7_meet_32 : decode cX7_meet 32 = .ok (.istore 8, 2) := by decide +kernel
theorem dX7_meet_34 : decode cX7_meet 34 = .ok (.aload_n 0, 1) := by decide +kernel
theorem dX7_meet_35 : decode cX7_meet 35 = .ok (.iload_n 1, 1) := by decide +kernel
theorem dX7_meet_36 : decode cX7_meet 36 = .ok (.iload_n 2, 1) := by decide +kernel
theorem dX7_meet_37 : decode cX7_meet 37 = .ok (.iload 8, 2) := by decide +kernel
theorem dX7_meet_39 : decode cX7_meet 39 = .ok (.ifCond .eq 13, 3) := by decide +kernel
theorem dX7_meet_42 : decode cX7_meet 42 = .ok (.aload_n 0, 1) := by decide +kernel
theorem dX7_meet_43 : decode cX7_meet 43 = .ok (.getfield 38, 3) := by decide +kernel
theorem dX7_meet_46 : decode cX7_meet 46 = .ok (.iload 7, 2) := by decide +kernel
theorem dX7_meet_48 : decode cX7_meet 48 = .ok (.laload, 1) := by decide +kernel
theorem dX7_meet_49 : decode cX7_meet 49 = .ok (.goto 4, 3) := by decide +kernel
theorem dX7_meet_52 : decode cX7_meet 52 = .ok (.lload_n 3, 1) := by decide +kernel
theorem dX7_meet_53 : decode cX7_meet 53 = .ok (.iload 8, 2) := by decide +kernel
theorem dX7_meet_55 : decode cX7_meet 55 = .ok (.ifCond .eq 13, 3) := by decide +kernel
theorem dX7_meet_58 : decode cX7_meet 58 = .ok (.aload_n 0, 1) := by decide +kernel
theorem dX7_meet_59 : decode cX7_meet 59 = .ok (.getfield 38, 3) := by decide +kernel
theorem dX7_meet_62 : decode cX7_meet 62 = .ok (.iload 7, 2) := by decide +kernel
theorem dX7_meet_64 : decode cX7_meet 64 = .ok (.laload, 1) := by decide +kernel
theorem dX7_meet_65 : decode cX7_meet 65 = .ok (.goto 5, 3) := by decide +kernel
theorem dX7_meet_68 : decode cX7_meet 68 = .ok (.lload 5, 2) := by decide +kernel
theorem dX7_meet_70 : decode cX7_meet 70 = .ok (.invokevirtual 228, 3) := by decide +kernel
theorem dX7_meet_73 : decode cX7_meet 73 = .ok (.iload 8, 2) := by decide +kernel
theorem dX7_meet_75 : decode cX7_meet 75 = .ok (.ifCond .eq 7, 3) := by decide +kernel
theorem dX7_meet_78 : decode cX7_meet 78 = .ok (.iconst 2, 1) := by decide +kernel
theorem dX7_meet_79 : decode cX7_meet 79 = .ok (.goto 4, 3) := by decide +kernel
theorem dX7_meet_82 : decode cX7_meet 82 = .ok (.iconst 0, 1) := by decide +kernel
theorem dX7_meet_83 : decode cX7_meet 83 = .ok (.ireturn, 1) := by decide +kernel
theorem dX7_member_0 : decode cX7_member 0 = .ok (.iload_n 2, 1) := by decide +kernel
theorem dX7_member_1 : decode cX7_member 1 = .ok (.iconst 2, 1) := by decide +kernel
theorem dX7_member_2 : decode cX7_member 2 = .ok (.if_icmp .ne 14, 3) := by decide +kernel
theorem dX7_member_5 : decode cX7_member 5 = .ok (.aload_n 0, 1) := by decide +kernel
theorem dX7_member_6 : decode cX7_member 6 = .ok (.iload_n 1, 1) := by decide +kernel
theorem dX7_member_7 : decode cX7_member 7 = .ok (.lload_n 3, 1) := by decide +kernel
theorem dX7_member_8 : decode cX7_member 8 = .ok (.lload 5, 2) := by decide +kernel
theorem dX7_member_10 : decode cX7_member 10 = .ok (.invokevirtual 203, 3) := by decide +kernel
theorem dX7_member_13 : decode cX7_member 13 = .ok (.goto 11, 3) := by decide +kernel
theorem dX7_member_16 : decode cX7_member 16 = .ok (.aload_n 0, 1) := by decide +kernel
theorem dX7_member_17 : decode cX7_member 17 = .ok (.iload_n 1, 1) := by decide +kernel
theorem dX7_member_18 : decode cX7_member 18 = .ok (.lload_n 3, 1) := by decide +kernel
theorem dX7_member_19 : decode cX7_member 19 = .ok (.lload 5, 2) := by decide +kernel
theorem dX7_member_21 : decode cX7_member 21 = .ok (.invokevirtual 206, 3) := by decide +kernel
theorem dX7_member_24 : decode cX7_member 24 = .ok (.lstore 7, 2) := by decide +kernel
theorem dX7_member_26 : decode cX7_member 26 = .ok (.aload_n 0, 1) := by decide +kernel
theorem dX7_member_27 : decode cX7_member 27 = .ok (.iload_n 1, 1) := by decide +kernel
theorem dX7_member_28 : decode cX7_member 28 = .ok (.lload 7, 2) := by decide +kernel
theorem dX7_member_30 : decode cX7_member 30 = .ok (.invokevirtual 98, 3) := by decide +kernel
theorem dX7_member_33 : decode cX7_member 33 = .ok (.ifCond .eq 7, 3) := by decide +kernel
theorem dX7_member_36 : decode cX7_member 36 = .ok (.lconst 0, 1) := by decide +kernel
theorem dX7_member_37 : decode cX7_member 37 = .ok (.goto 5, 3) := by decide +kernel
theorem dX7_member_40 : decode cX7_member 40 = .ok (.lload 7, 2) := by decide +kernel
theorem dX7_member_42 : decode cX7_member 42 = .ok (.lreturn, 1) := by decide +kernel
theorem dX7_move_0 : decode cX7_move 0 = .ok (.aload_n 0, 1) := by decide +kernel
theorem dX7_move_1 : decode cX7_move 1 = .ok (.iload_n 1, 1) := by decide +kernel
theorem dX7_move_2 : decode cX7_move 2 = .ok (.iload_n 2, 1) := by decide +kernel
theorem dX7_move_3 : decode cX7_move 3 = .ok (.invokevirtual 142, 3) := by decide +kernel
theorem dX7_move_6 : decode cX7_move 6 = .ok (.istore 6, 2) := by decide +kernel
theorem dX7_move_8 : decode cX7_move 8 = .ok (.iload 6, 2) := by decide +kernel
theorem dX7_move_10 : decode cX7_move 10 = .ok (.ifCond .ne 28, 3) := by decide +kernel
theorem dX7_move_13 : decode cX7_move 13 = .ok (.iload_n 3, 1) := by decide +kernel
theorem dX7_move_14 : decode cX7_move 14 = .ok (.ifCond .lt 21, 3) := by decide +kernel
theorem dX7_move_17 : decode cX7_move 17 = .ok (.iload_n 3, 1) := by decide +kernel
theorem dX7_move_18 : decode cX7_move 18 = .ok (.aload_n 0, 1) := by decide +kernel
theorem dX7_move_19 : decode cX7_move 19 = .ok (.getfield 79, 3) := by decide +kernel
theorem dX7_move_22 : decode cX7_move 22 = .ok (.if_icmp .ge 13, 3) := by decide +kernel
theorem dX7_move_25 : decode cX7_move 25 = .ok (.aload_n 0, 1) := by decide +kernel
theorem dX7_move_26 : decode cX7_move 26 = .ok (.iload_n 3, 1) := by decide +kernel
theorem dX7_move_27 : decode cX7_move 27 = .ok (.iload 4, 2) := by decide +kernel
theorem dX7_move_29 : decode cX7_move 29 = .ok (.invokevirtual 163, 3) := by decide +kernel
theorem dX7_move_32 : decode cX7_move 32 = .ok (.ifCond .eq 6, 3) := by decide +kernel
theorem dX7_move_35 : decode cX7_move 35 = .ok (.iconst 2, 1) := by decide +kernel
theorem dX7_move_36 : decode cX7_move 36 = .ok (.istore 6, 2) := by decide +kernel
theorem dX7_move_38 : decode cX7_move 38 = .ok (.iload 6, 2) := by decide +kernel
theorem dX7_move_40 : decode cX7_move 40 = .ok (.ifCond .ne 26, 3) := by decide +kernel
theorem dX7_move_43 : decode cX7_move 43 = .ok (.aload_n 0, 1) := by decide +kernel
theorem dX7_move_44 : decode cX7_move 44 = .ok (.getfield 51, 3) := by decide +kernel
theorem dX7_move_47 : decode cX7_move 47 = .ok (.iload_n 1, 1) := by decide +kernel
theorem dX7_move_48 : decode cX7_move 48 = .ok (.iaload, 1) := by decide +kernel
theorem dX7_move_49 : decode cX7_move 49 = .ok (.aload_n 0, 1) := by decide +kernel
theorem dX7_move_50 : decode cX7_move 50 = .ok (.getfield 51, 3) := by decide +kernel
theorem dX7_move_53 : decode cX7_move 53 = .ok (.iload_n 3, 1) := by decide +kernel
theorem dX7_move_54 : decode cX7_move 54 = .ok (.iaload, 1) := by decide +kernel
theorem dX7_move_55 : decode cX7_move 55 = .ok (.if_icmp .eq 11, 3) := by decide +kernel
theorem dX7_move_58 : decode cX7_move 58 = .ok (.iload 5, 2) := by decide +kernel
theorem dX7_move_60 : decode cX7_move 60 = .ok (.ifCond .ne 6, 3) := by decide +kernel
theorem dX7_move_63 : decode cX7_move 63 = .ok (.iconst 3, 1) := by decide +kernel
theorem dX7_move_64 : decode cX7_move 64 = .ok (.istore 6, 2) := by decide +kernel
theorem dX7_move_66 : decode cX7_move 66 = .ok (.iload 6, 2) := by decide +kernel
theorem dX7_move_68 : decode cX7_move 68 = .ok (.ifCond .le 10, 3) := by decide +kernel
theorem dX7_move_71 : decode cX7_move 71 = .ok (.aload_n 0, 1) := by decide +kernel
theorem dX7_move_72 : decode cX7_move 72 = .ok (.iload 6, 2) := by decide +kernel
theorem dX7_move_74 : decode cX7_move 74 = .ok (.invokevirtual 139, 3) := by decide +kernel
theorem dX7_move_77 : decode cX7_move 77 = .ok (.ireturn, 1) := by decide +kernel
theorem dX7_move_78 : decode cX7_move 78 = .ok (.aload_n 0, 1) := by decide +kernel
theorem dX7_move_79 : decode cX7_move 79 = .ok (.iconst 0, 1) := by decide +kernel
theorem dX7_move_80 : decode cX7_move 80 = .ok (.putfield 75, 3) := by decide +kernel
theorem dX7_move_83 : decode cX7_move 83 = .ok (.aload_n 0, 1) := by decide +kernel
theorem dX7_move_84 : decode cX7_move 84 = .ok (.iload_n 3, 1) := by decide +kernel
theorem dX7_move_85 : decode cX7_move 85 = .ok (.iload 4, 2) := by decide +kernel
theorem dX7_move_87 : decode cX7_move 87 = .ok (.aload_n 0, 1) := by decide +kernel
theorem dX7_move_88 : decode cX7_move 88 = .ok (.aload_n 0, 1) := by decide +kernel
theorem dX7_move_89 : decode cX7_move 89 = .ok (.getfield 51, 3) := by decide +kernel
theorem dX7_move_92 : decode cX7_move 92 = .ok (.iload_n 1, 1) := by decide +kernel
theorem dX7_move_93 : decode cX7_move 93 = .ok (.iaload, 1) := by decide +kernel
theorem dX7_move_94 : decode cX7_move 94 = .ok (.aload_n 0, 1) := by decide +kernel
theorem dX7_move_95 : decode cX7_move 95 = .ok (.getfield 51, 3) := by decide +kernel
theorem dX7_move_98 : decode cX7_move 98 = .ok (.iload_n 3, 1) := by decide +kernel
theorem dX7_move_99 : decode cX7_move 99 = .ok (.iaload, 1) := by decide +kernel
theorem dX7_move_100 : decode cX7_move 100 = .ok (.aload_n 0, 1) := by decide +kernel
theorem dX7_move_101 : decode cX7_move 101 = .ok (.iload_n 1, 1) := by decide +kernel
theorem dX7_move_102 : decode cX7_move 102 = .ok (.iload_n 2, 1) := by decide +kernel
theorem dX7_move_103 : decode cX7_move 103 = .ok (.invokevirtual 155, 3) := by decide +kernel
theorem dX7_move_106 : decode cX7_move 106 = .ok (.invokevirtual 245, 3) := by decide +kernel
theorem dX7_move_109 : decode cX7_move 109 = .ok (.invokevirtual 149, 3) := by decide +kernel
theorem dX7_move_112 : decode cX7_move 112 = .ok (.ireturn, 1) := by decide +kernel
theorem dX7_turnedTo_0 : decode cX7_turnedTo 0 = .ok (.iload_n 1, 1) := by decide +kernel
theorem dX7_turnedTo_1 : decode cX7_turnedTo 1 = .ok (.iload_n 2, 1) := by decide +kernel
theorem dX7_turnedTo_2 : decode cX7_turnedTo 2 = .ok (.if_icmp .ne 5, 3) := by decide +kernel
theorem dX7_turnedTo_5 : decode cX7_turnedTo 5 = .ok (.lload_n 3, 1) := by decide +kernel
theorem dX7_turnedTo_6 : decode cX7_turnedTo 6 = .ok (.lreturn, 1) := by decide +kernel
theorem dX7_turnedTo_7 : decode cX7_turnedTo 7 = .ok (.aload_n 0, 1) := by decide +kernel
theorem dX7_turnedTo_8 : decode cX7_turnedTo 8 = .ok (.iload_n 1, 1) := by decide +kernel
theorem dX7_turnedTo_9 : decode cX7_turnedTo 9 = .ok (.lload_n 3, 1) := by decide +kernel
theorem dX7_turnedTo_10 : decode cX7_turnedTo 10 = .ok (.invokevirtual 98, 3) := by decide +kernel
theorem dX7_turnedTo_13 : decode cX7_turnedTo 13 = .ok (.ifCond .eq 10, 3) := by decide +kernel
theorem dX7_turnedTo_16 : decode cX7_turnedTo 16 = .ok (.aload_n 0, 1) := by decide +kernel
theorem dX7_turnedTo_17 : decode cX7_turnedTo 17 = .ok (.getfield 38, 3) := by decide +kernel
theorem dX7_turnedTo_20 : decode cX7_turnedTo 20 = .ok (.iload_n 2, 1) := by decide +kernel
theorem dX7_turnedTo_21 : decode cX7_turnedTo 21 = .ok (.laload, 1) := by decide +kernel
theorem dX7_turnedTo_22 : decode cX7_turnedTo 22 = .ok (.lreturn, 1) := by decide +kernel
theorem dX7_turnedTo_23 : decode cX7_turnedTo 23 = .ok (.aload_n 0, 1) := by decide +kernel
theorem dX7_turnedTo_24 : decode cX7_turnedTo 24 = .ok (.iload_n 1, 1) := by decide +kernel
theorem dX7_turnedTo_25 : decode cX7_turnedTo 25 = .ok (.lload_n 3, 1) := by decide +kernel
theorem dX7_turnedTo_26 : decode cX7_turnedTo 26 = .ok (.invokevirtual 102, 3) := by decide +kernel
theorem dX7_turnedTo_29 : decode cX7_turnedTo 29 = .ok (.ifCond .eq 16, 3) := by decide +kernel
theorem dX7_turnedTo_32 : decode cX7_turnedTo 32 = .ok (.aload_n 0, 1) := by decide +kernel
theorem dX7_turnedTo_33 : decode cX7_turnedTo 33 = .ok (.iload_n 2, 1) := by decide +kernel
theorem dX7_turnedTo_34 : decode cX7_turnedTo 34 = .ok (.lconst 0, 1) := by decide +kernel
theorem dX7_turnedTo_35 : decode cX7_turnedTo 35 = .ok (.aload_n 0, 1) := by decide +kernel
theorem dX7_turnedTo_36 : decode cX7_turnedTo 36 = .ok (.iload_n 1, 1) := by decide +kernel
theorem dX7_turnedTo_37 : decode cX7_turnedTo 37 = .ok (.lload_n 3, 1) := by decide +kernel
theorem dX7_turnedTo_38 : decode cX7_turnedTo 38 = .ok (.invokevirtual 108, 3) := by decide +kernel
theorem dX7_turnedTo_41 : decode cX7_turnedTo 41 = .ok (.invokevirtual 111, 3) := by decide +kernel
theorem dX7_turnedTo_44 : decode cX7_turnedTo 44 = .ok (.lreturn, 1) := by decide +kernel
theorem dX7_turnedTo_45 : decode cX7_turnedTo 45 = .ok (.aload_n 0, 1) := by decide +kernel
theorem dX7_turnedTo_46 : decode cX7_turnedTo 46 = .ok (.iload_n 1, 1) := by decide +kernel
theorem dX7_turnedTo_47 : decode cX7_turnedTo 47 = .ok (.lload_n 3, 1) := by decide +kernel
theorem dX7_turnedTo_48 : decode cX7_turnedTo 48 = .ok (.invokevirtual 105, 3) := by decide +kernel
theorem dX7_turnedTo_51 : decode cX7_turnedTo 51 = .ok (.ifCond .eq 21, 3) := by decide +kernel
theorem dX7_turnedTo_54 : decode cX7_turnedTo 54 = .ok (.aload_n 0, 1) := by decide +kernel
theorem dX7_turnedTo_55 : decode cX7_turnedTo 55 = .ok (.iload_n 2, 1) := by decide +kernel
theorem dX7_turnedTo_56 : decode cX7_turnedTo 56 = .ok (.aload_n 0, 1) := by decide +kernel
theorem dX7_turnedTo_57 : decode cX7_turnedTo 57 = .ok (.getfield 31, 3) := by decide +kernel
theorem dX7_turnedTo_60 : decode cX7_turnedTo 60 = .ok (.iload_n 2, 1) := by decide +kernel
theorem dX7_turnedTo_61 : decode cX7_turnedTo 61 = .ok (.laload, 1) := by decide +kernel
theorem dX7_turnedTo_62 : decode cX7_turnedTo 62 = .ok (.aload_n 0, 1) := by decide +kernel
theorem dX7_turnedTo_63 : decode cX7_turnedTo 63 = .ok (.iload_n 1, 1) := by decide +kernel
theorem dX7_turnedTo_64 : decode cX7_turnedTo 64 = .ok (.lload_n 3, 1) := by decide +kernel
theorem dX7_turnedTo_65 : decode cX7_turnedTo 65 = .ok (.invokevirtual 108, 3) := by decide +kernel
theorem dX7_turnedTo_68 : decode cX7_turnedTo 68 = .ok (.invokevirtual 111, 3) := by decide +kernel
theorem dX7_turnedTo_71 : decode cX7_turnedTo 71 = .ok (.lreturn, 1) := by decide +kernel
theorem dX7_turnedTo_72 : decode cX7_turnedTo 72 = .ok (.aload_n 0, 1) := by decide +kernel
theorem dX7_turnedTo_73 : decode cX7_turnedTo 73 = .ok (.iload_n 2, 1) := by decide +kernel
theorem dX7_turnedTo_74 : decode cX7_turnedTo 74 = .ok (.aload_n 0, 1) := by decide +kernel
theorem dX7_turnedTo_75 : decode cX7_turnedTo 75 = .ok (.iload_n 1, 1) := by decide +kernel
theorem dX7_turnedTo_76 : decode cX7_turnedTo 76 = .ok (.lload_n 3, 1) := by decide +kernel
theorem dX7_turnedTo_77 : decode cX7_turnedTo 77 = .ok (.invokevirtual 108, 3) := by decide +kernel
theorem dX7_turnedTo_80 : decode cX7_turnedTo 80 = .ok (.aload_n 0, 1) := by decide +kernel
theorem dX7_turnedTo_81 : decode cX7_turnedTo 81 = .ok (.iload_n 1, 1) := by decide +kernel
theorem dX7_turnedTo_82 : decode cX7_turnedTo 82 = .ok (.lload_n 3, 1) := by decide +kernel
theorem dX7_turnedTo_83 : decode cX7_turnedTo 83 = .ok (.invokevirtual 119, 3) := by decide +kernel
theorem dX7_turnedTo_86 : decode cX7_turnedTo 86 = .ok (.aload_n 0, 1) := by decide +kernel
theorem dX7_turnedTo_87 : decode cX7_turnedTo 87 = .ok (.iload_n 1, 1) := by decide +kernel
theorem dX7_turnedTo_88 : decode cX7_turnedTo 88 = .ok (.lload_n 3, 1) := by decide +kernel
theorem dX7_turnedTo_89 : decode cX7_turnedTo 89 = .ok (.invokevirtual 122, 3) := by decide +kernel
theorem dX7_turnedTo_92 : decode cX7_turnedTo 92 = .ok (.iconst 0, 1) := by decide +kernel
theorem dX7_turnedTo_93 : decode cX7_turnedTo 93 = .ok (.invokevirtual 125, 3) := by decide +kernel
theorem dX7_turnedTo_96 : decode cX7_turnedTo 96 = .ok (.lreturn, 1) := by decide +kernel
theorem dX7_status_0 : decode cX7_status 0 = .ok (.aload_n 0, 1) := by decide +kernel
theorem dX7_status_1 : decode cX7_status 1 = .ok (.getfield 75, 3) := by decide +kernel
theorem dX7_status_4 : decode cX7_status 4 = .ok (.ireturn, 1) := by decide +kernel
theorem dJ6_numberOfLeadingZeros_0f7a4_0 : decode cJ6_numberOfLeadingZeros_0f7a4 0 = .ok (.iload_n 0, 1) := by decide +kernel
theorem dJ6_numberOfLeadingZeros_0f7a4_1 : decode cJ6_numberOfLeadingZeros_0f7a4 1 = .ok (.ifCond .gt 14, 3) := by decide +kernel
theorem dJ6_numberOfLeadingZeros_0f7a4_4 : decode cJ6_numberOfLeadingZeros_0f7a4 4 = .ok (.iload_n 0, 1) := by decide +kernel
theorem dJ6_numberOfLeadingZeros_0f7a4_5 : decode cJ6_numberOfLeadingZeros_0f7a4 5 = .ok (.ifCond .ne 8, 3) := by decide +kernel
theorem dJ6_numberOfLeadingZeros_0f7a4_8 : decode cJ6_numberOfLeadingZeros_0f7a4 8 = .ok (.bipush 32, 2) := by decide +kernel
theorem dJ6_numberOfLeadingZeros_0f7a4_10 : decode cJ6_numberOfLeadingZeros_0f7a4 10 = .ok (.goto 4, 3) := by decide +kernel
theorem dJ6_numberOfLeadingZeros_0f7a4_13 : decode cJ6_numberOfLeadingZeros_0f7a4 13 = .ok (.iconst 0, 1) := by decide +kernel
theorem dJ6_numberOfLeadingZeros_0f7a4_14 : decode cJ6_numberOfLeadingZeros_0f7a4 14 = .ok (.ireturn, 1) := by decide +kernel
theorem dJ6_numberOfLeadingZeros_0f7a4_15 : decode cJ6_numberOfLeadingZeros_0f7a4 15 = .ok (.bipush 31, 2) := by decide +kernel
theorem dJ6_numberOfLeadingZeros_0f7a4_17 : decode cJ6_numberOfLeadingZeros_0f7a4 17 = .ok (.istore_n 1, 1) := by decide +kernel
theorem dJ6_numberOfLeadingZeros_0f7a4_18 : decode cJ6_numberOfLeadingZeros_0f7a4 18 = .ok (.iload_n 0, 1) := by decide +kernel
theorem dJ6_numberOfLeadingZeros_0f7a4_19 : decode cJ6_numberOfLeadingZeros_0f7a4 19 = .ok (.ldc_w 264, 3) := by decide +kernel
theorem dJ6_numberOfLeadingZeros_0f7a4_22 : decode cJ6_numberOfLeadingZeros_0f7a4 22 = .ok (.if_icmp .lt 11, 3) := by decide +kernel
theorem dJ6_numberOfLeadingZeros_0f7a4_25 : decode cJ6_numberOfLeadingZeros_0f7a4 25 = .ok (.iinc 1 (-16), 3) := by decide +kernel
theorem dJ6_numberOfLeadingZeros_0f7a4_28 : decode cJ6_numberOfLeadingZeros_0f7a4 28 = .ok (.iload_n 0, 1) := by decide +kernel
theorem dJ6_numberOfLeadingZeros_0f7a4_29 : decode cJ6_numberOfLeadingZeros_0f7a4 29 = .ok (.bipush 16, 2) := by decide +kernel
theorem dJ6_numberOfLeadingZeros_0f7a4_31 : decode cJ6_numberOfLeadingZeros_0f7a4 31 = .ok (.iushr, 1) := by decide +kernel
theorem dJ6_numberOfLeadingZeros_0f7a4_32 : decode cJ6_numberOfLeadingZeros_0f7a4 32 = .ok (.istore_n 0, 1) := by decide +kernel
theorem dJ6_numberOfLeadingZeros_0f7a4_33 : decode cJ6_numberOfLeadingZeros_0f7a4 33 = .ok (.iload_n 0, 1) := by decide +kernel
theorem dJ6_numberOfLeadingZeros_0f7a4_34 : decode cJ6_numberOfLeadingZeros_0f7a4 34 = .ok (.sipush 256, 3) := by decide +kernel
theorem dJ6_numberOfLeadingZeros_0f7a4_37 : decode cJ6_numberOfLeadingZeros_0f7a4 37 = .ok (.if_icmp .lt 11, 3) := by decide +kernel
theorem dJ6_numberOfLeadingZeros_0f7a4_40 : decode cJ6_numberOfLeadingZeros_0f7a4 40 = .ok (.iinc 1 (-8), 3) := by decide +kernel
theorem dJ6_numberOfLeadingZeros_0f7a4_43 : decode cJ6_numberOfLeadingZeros_0f7a4 43 = .ok (.iload_n 0, 1) := by decide +kernel
theorem dJ6_numberOfLeadingZeros_0f7a4_44 : decode cJ6_numberOfLeadingZeros_0f7a4 44 = .ok (.bipush 8, 2) := by decide +kernel
theorem dJ6_numberOfLeadingZeros_0f7a4_46 : decode cJ6_numberOfLeadingZeros_0f7a4 46 = .ok (.iushr, 1) := by decide +kernel
theorem dJ6_numberOfLeadingZeros_0f7a4_47 : decode cJ6_numberOfLeadingZeros_0f7a4 47 = .ok (.istore_n 0, 1) := by decide +kernel
theorem dJ6_numberOfLeadingZeros_0f7a4_48 : decode cJ6_numberOfLeadingZeros_0f7a4 48 = .ok (.iload_n 0, 1) := by decide +kernel
theorem dJ6_numberOfLeadingZeros_0f7a4_49 : decode cJ6_numberOfLeadingZeros_0f7a4 49 = .ok (.bipush 16, 2) := by decide +kernel
theorem dJ6_numberOfLeadingZeros_0f7a4_51 : decode cJ6_numberOfLeadingZeros_0f7a4 51 = .ok (.if_icmp .lt 10, 3) := by decide +kernel
theorem dJ6_numberOfLeadingZeros_0f7a4_54 : decode cJ6_numberOfLeadingZeros_0f7a4 54 = .ok (.iinc 1 (-4), 3) := by decide +kernel
theorem dJ6_numberOfLeadingZeros_0f7a4_57 : decode cJ6_numberOfLeadingZeros_0f7a4 57 = .ok (.iload_n 0, 1) := by decide +kernel
theorem dJ6_numberOfLeadingZeros_0f7a4_58 : decode cJ6_numberOfLeadingZeros_0f7a4 58 = .ok (.iconst 4, 1) := by decide +kernel
theorem dJ6_numberOfLeadingZeros_0f7a4_59 : decode cJ6_numberOfLeadingZeros_0f7a4 59 = .ok (.iushr, 1) := by decide +kernel
theorem dJ6_numberOfLeadingZeros_0f7a4_60 : decode cJ6_numberOfLeadingZeros_0f7a4 60 = .ok (.istore_n 0, 1) := by decide +kernel
theorem dJ6_numberOfLeadingZeros_0f7a4_61 : decode cJ6_numberOfLeadingZeros_0f7a4 61 = .ok (.iload_n 0, 1) := by decide +kernel
theorem dJ6_numberOfLeadingZeros_0f7a4_62 : decode cJ6_numberOfLeadingZeros_0f7a4 62 = .ok (.iconst 4, 1) := by decide +kernel
theorem dJ6_numberOfLeadingZeros_0f7a4_63 : decode cJ6_numberOfLeadingZeros_0f7a4 63 = .ok (.if_icmp .lt 10, 3) := by decide +kernel
theorem dJ6_numberOfLeadingZeros_0f7a4_66 : decode cJ6_numberOfLeadingZeros_0f7a4 66 = .ok (.iinc 1 (-2), 3) := by decide +kernel
theorem dJ6_numberOfLeadingZeros_0f7a4_69 : decode cJ6_numberOfLeadingZeros_0f7a4 69 = .ok (.iload_n 0, 1) := by decide +kernel
theorem dJ6_numberOfLeadingZeros_0f7a4_70 : decode cJ6_numberOfLeadingZeros_0f7a4 70 = .ok (.iconst 2, 1) := by decide +kernel
theorem dJ6_numberOfLeadingZeros_0f7a4_71 : decode cJ6_numberOfLeadingZeros_0f7a4 71 = .ok (.iushr, 1) := by decide +kernel
theorem dJ6_numberOfLeadingZeros_0f7a4_72 : decode cJ6_numberOfLeadingZeros_0f7a4 72 = .ok (.istore_n 0, 1) := by decide +kernel
theorem dJ6_numberOfLeadingZeros_0f7a4_73 : decode cJ6_numberOfLeadingZeros_0f7a4 73 = .ok (.iload_n 1, 1) := by decide +kernel
theorem dJ6_numberOfLeadingZeros_0f7a4_74 : decode cJ6_numberOfLeadingZeros_0f7a4 74 = .ok (.iload_n 0, 1) := by decide +kernel
theorem dJ6_numberOfLeadingZeros_0f7a4_75 : decode cJ6_numberOfLeadingZeros_0f7a4 75 = .ok (.iconst 1, 1) := by decide +kernel
theorem dJ6_numberOfLeadingZeros_0f7a4_76 : decode cJ6_numberOfLeadingZeros_0f7a4 76 = .ok (.iushr, 1) := by decide +kernel
theorem dJ6_numberOfLeadingZeros_0f7a4_77 : decode cJ6_numberOfLeadingZeros_0f7a4 77 = .ok (.isub, 1) := by decide +kernel
theorem dJ6_numberOfLeadingZeros_0f7a4_78 : decode cJ6_numberOfLeadingZeros_0f7a4 78 = .ok (.ireturn, 1) := by decide +kernel
theorem dJ13_numberOfLeadingZeros_95d88_0 : decode cJ13_numberOfLeadingZeros_95d88 0 = .ok (.lload_n 0, 1) := by decide +kernel
theorem dJ13_numberOfLeadingZeros_95d88_1 : decode cJ13_numberOfLeadingZeros_95d88 1 = .ok (.bipush 32, 2) := by decide +kernel
theorem dJ13_numberOfLeadingZeros_95d88_3 : decode cJ13_numberOfLeadingZeros_95d88 3 = .ok (.lushr, 1) := by decide +kernel
theorem dJ13_numberOfLeadingZeros_95d88_4 : decode cJ13_numberOfLeadingZeros_95d88 4 = .ok (.l2i, 1) := by decide +kernel
theorem dJ13_numberOfLeadingZeros_95d88_5 : decode cJ13_numberOfLeadingZeros_95d88 5 = .ok (.istore_n 2, 1) := by decide +kernel
theorem dJ13_numberOfLeadingZeros_95d88_6 : decode cJ13_numberOfLeadingZeros_95d88 6 = .ok (.iload_n 2, 1) := by decide +kernel
theorem dJ13_numberOfLeadingZeros_95d88_7 : decode cJ13_numberOfLeadingZeros_95d88 7 = .ok (.ifCond .ne 14, 3) := by decide +kernel
theorem dJ13_numberOfLeadingZeros_95d88_10 : decode cJ13_numberOfLeadingZeros_95d88 10 = .ok (.bipush 32, 2) := by decide +kernel
theorem dJ13_numberOfLeadingZeros_95d88_12 : decode cJ13_numberOfLeadingZeros_95d88 12 = .ok (.lload_n 0, 1) := by decide +kernel
theorem dJ13_numberOfLeadingZeros_95d88_13 : decode cJ13_numberOfLeadingZeros_95d88 13 = .ok (.l2i, 1) := by decide +kernel
theorem dJ13_numberOfLeadingZeros_95d88_14 : decode cJ13_numberOfLeadingZeros_95d88 14 = .ok (.invokestatic 308, 3) := by decide +kernel
theorem dJ13_numberOfLeadingZeros_95d88_17 : decode cJ13_numberOfLeadingZeros_95d88 17 = .ok (.iadd, 1) := by decide +kernel
theorem dJ13_numberOfLeadingZeros_95d88_18 : decode cJ13_numberOfLeadingZeros_95d88 18 = .ok (.goto 7, 3) := by decide +kernel
theorem dJ13_numberOfLeadingZeros_95d88_21 : decode cJ13_numberOfLeadingZeros_95d88 21 = .ok (.iload_n 2, 1) := by decide +kernel
theorem dJ13_numberOfLeadingZeros_95d88_22 : decode cJ13_numberOfLeadingZeros_95d88 22 = .ok (.invokestatic 308, 3) := by decide +kernel
theorem dJ13_numberOfLeadingZeros_95d88_25 : decode cJ13_numberOfLeadingZeros_95d88 25 = .ok (.ireturn, 1) := by decide +kernel
theorem dJ9_abs_067f4_0 : decode cJ9_abs_067f4 0 = .ok (.lload_n 0, 1) := by decide +kernel
theorem dJ9_abs_067f4_1 : decode cJ9_abs_067f4 1 = .ok (.lconst 0, 1) := by decide +kernel
theorem dJ9_abs_067f4_2 : decode cJ9_abs_067f4 2 = .ok (.lcmp, 1) := by decide +kernel
theorem dJ9_abs_067f4_3 : decode cJ9_abs_067f4 3 = .ok (.ifCond .ge 8, 3) := by decide +kernel
theorem dJ9_abs_067f4_6 : decode cJ9_abs_067f4 6 = .ok (.lload_n 0, 1) := by decide +kernel
theorem dJ9_abs_067f4_7 : decode cJ9_abs_067f4 7 = .ok (.lneg, 1) := by decide +kernel
theorem dJ9_abs_067f4_8 : decode cJ9_abs_067f4 8 = .ok (.goto 4, 3) := by decide +kernel
theorem dJ9_abs_067f4_11 : decode cJ9_abs_067f4 11 = .ok (.lload_n 0, 1) := by decide +kernel
theorem dJ9_abs_067f4_12 : decode cJ9_abs_067f4 12 = .ok (.lreturn, 1) := by decide +kernel
theorem dJ9_max_7cf53_0 : decode cJ9_max_7cf53 0 = .ok (.iload_n 0, 1) := by decide +kernel
theorem dJ9_max_7cf53_1 : decode cJ9_max_7cf53 1 = .ok (.iload_n 1, 1) := by decide +kernel
theorem dJ9_max_7cf53_2 : decode cJ9_max_7cf53 2 = .ok (.if_icmp .lt 7, 3) := by decide +kernel
theorem dJ9_max_7cf53_5 : decode cJ9_max_7cf53 5 = .ok (.iload_n 0, 1) := by decide +kernel
theorem dJ9_max_7cf53_6 : decode cJ9_max_7cf53 6 = .ok (.goto 4, 3) := by decide +kernel
theorem dJ9_max_7cf53_9 : decode cJ9_max_7cf53 9 = .ok (.iload_n 1, 1) := by decide +kernel
theorem dJ9_max_7cf53_10 : decode cJ9_max_7cf53 10 = .ok (.ireturn, 1) := by decide +kernel
theorem dJ9_max_f86c9_0 : decode cJ9_max_f86c9 0 = .ok (.lload_n 0, 1) := by decide +kernel
theorem dJ9_max_f86c9_1 : decode cJ9_max_f86c9 1 = .ok (.lload_n 2, 1) := by decide +kernel
theorem dJ9_max_f86c9_2 : decode cJ9_max_f86c9 2 = .ok (.lcmp, 1) := by decide +kernel
theorem dJ9_max_f86c9_3 : decode cJ9_max_f86c9 3 = .ok (.ifCond .lt 7, 3) := by decide +kernel
theorem dJ9_max_f86c9_6 : decode cJ9_max_f86c9 6 = .ok (.lload_n 0, 1) := by decide +kernel
theorem dJ9_max_f86c9_7 : decode cJ9_max_f86c9 7 = .ok (.goto 4, 3) := by decide +kernel
theorem dJ9_max_f86c9_10 : decode cJ9_max_f86c9 10 = .ok (.lload_n 2, 1) := by decide +kernel
theorem dJ9_max_f86c9_11 : decode cJ9_max_f86c9 11 = .ok (.lreturn, 1) := by decide +kernel
theorem dJ9_min_7cf53_0 : decode cJ9_min_7cf53 0 = .ok (.iload_n 0, 1) := by decide +kernel
theorem dJ9_min_7cf53_1 : decode cJ9_min_7cf53 1 = .ok (.iload_n 1, 1) := by decide +kernel
theorem dJ9_min_7cf53_2 : decode cJ9_min_7cf53 2 = .ok (.if_icmp .gt 7, 3) := by decide +kernel
theorem dJ9_min_7cf53_5 : decode cJ9_min_7cf53 5 = .ok (.iload_n 0, 1) := by decide +kernel
theorem dJ9_min_7cf53_6 : decode cJ9_min_7cf53 6 = .ok (.goto 4, 3) := by decide +kernel
theorem dJ9_min_7cf53_9 : decode cJ9_min_7cf53 9 = .ok (.iload_n 1, 1) := by decide +kernel
theorem dJ9_min_7cf53_10 : decode cJ9_min_7cf53 10 = .ok (.ireturn, 1) := by decide +kernel
theorem dJ9_min_f86c9_0 : decode cJ9_min_f86c9 0 = .ok (.lload_n 0, 1) := by decide +kernel
theorem dJ9_min_f86c9_1 : decode cJ9_min_f86c9 1 = .ok (.lload_n 2, 1) := by decide +kernel
theorem dJ9_min_f86c9_2 : decode cJ9_min_f86c9 2 = .ok (.lcmp, 1) := by decide +kernel
theorem dJ9_min_f86c9_3 : decode cJ9_min_f86c9 3 = .ok (.ifCond .gt 7, 3) := by decide +kernel
theorem dJ9_min_f86c9_6 : decode cJ9_min_f86c9 6 = .ok (.lload_n 0, 1) := by decide +kernel
theorem dJ9_min_f86c9_7 : decode cJ9_min_f86c9 7 = .ok (.goto 4, 3) := by decide +kernel
theorem dJ9_min_f86c9_10 : decode cJ9_min_f86c9 10 = .ok (.lload_n 2, 1) := by decide +kernel
theorem dJ9_min_f86c9_11 : decode cJ9_min_f86c9 11 = .ok (.lreturn, 1) := by decide +kernel
abbrev vwCl : List vw_C := [(RX0, TX0, 3), (RX1, TX1, 0), (RX3, TX3, 2), (RX4, TX4, 2), (RX6, TX6, 5), (RX7, TX7, 18)]

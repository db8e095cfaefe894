theorem dX4_clauseAt_0 : decode cX4_clauseAt 0 = .ok (.iload_n 1, 1) := by decide +kernel
theorem dX4_clauseAt_1 : decode cX4_clauseAt 1 = .ok (.ifCond .lt 20, 3) := by decide +kernel
theorem dX4_clauseAt_4 : decode cX4_clauseAt 4 = .ok (.iload_n 1, 1) := by decide +kernel
theorem dX4_clauseAt_5 : decode cX4_clauseAt 5 = .ok (.aload_n 0, 1) := by decide +kernel
theorem dX4_clauseAt_6 : decode cX4_clauseAt 6 = .ok (.getfield 43, 3) := by decide +kernel
theorem dX4_clauseAt_9 : decode cX4_clauseAt 9 = .ok (.if_icmp .ge 12, 3) := by decide +kernel
theorem dX4_clauseAt_12 : decode cX4_clauseAt 12 = .ok (.aload_n 0, 1) := by decide +kernel
theorem dX4_clauseAt_13 : decode cX4_clauseAt 13 = .ok (.getfield 20, 3) := by decide +kernel
theorem dX4_clauseAt_16 : decode cX4_clauseAt 16 = .ok (.iload_n 1, 1) := by decide +kernel
theorem dX4_clauseAt_17 : decode cX4_clauseAt 17 = .ok (.aaload, 1) := by decide +kernel
theorem dX4_clauseAt_18 : decode cX4_clauseAt 18 = .ok (.goto 4, 3) := by decide +kernel
theorem dX4_clauseAt_21 : decode cX4_clauseAt 21 = .ok (.aconst_null, 1) := by decide +kernel
theorem dX4_clauseAt_22 : decode cX4_clauseAt 22 = .ok (.areturn, 1) := by decide +kernel
theorem dX8_of_0 : decode cX8_of 0 = .ok (.aload_n 0, 1) := by decide +kernel
theorem dX8_of_1 : decode cX8_of 1 = .ok (.getfield 10, 3) := by decide +kernel
theorem dX8_of_4 : decode cX8_of 4 = .ok (.iload_n 1, 1) := by decide +kernel
theorem dX8_of_5 : decode cX8_of 5 = .ok (.invokevirtual 117, 3) := by decide +kernel
theorem dX8_of_8 : decode cX8_of 8 = .ok (.astore_n 3, 1) := by decide +kernel
theorem dX8_of_9 : decode cX8_of 9 = .ok (.aload_n 3, 1) := by decide +kernel
theorem dX8_of_10 : decode cX8_of 10 = .ok (.ifnonnull 10, 3) := by decide +kernel
theorem dX8_of_13 : decode cX8_of 13 = .ok (.aload_n 0, 1) := by decide +kernel
theorem dX8_of_14 : decode cX8_of 14 = .ok (.bipush (-2), 2) := by decide +kernel
theorem dX8_of_16 : decode cX8_of 16 = .ok (.invokevirtual 56, 3) := by decide +kernel
theorem dX8_of_19 : decode cX8_of 19 = .ok (.ireturn, 1) := by decide +kernel
theorem dX8_of_20 : decode cX8_of 20 = .ok (.iload_n 2, 1) := by decide +kernel
theorem dX8_of_21 : decode cX8_of 21 = .ok (.tableswitch 91 0 6 #[43, 48, 53, 58, 63, 68, 81], 43) := by decide +kernel
theorem dX8_of_64 : decode cX8_of 64 = .ok (.aload_n 3, 1) := by decide +kernel
theorem dX8_of_65 : decode cX8_of 65 = .ok (.getfield 121, 3) := by decide +kernel
theorem dX8_of_68 : decode cX8_of 68 = .ok (.ireturn, 1) := by decide +kernel
theorem dX8_of_69 : decode cX8_of 69 = .ok (.aload_n 3, 1) := by decide +kernel
theorem dX8_of_70 : decode cX8_of 70 = .ok (.getfield 126, 3) := by decide +kernel
theorem dX8_of_73 : decode cX8_of 73 = .ok (.ireturn, 1) := by decide +kernel
theorem dX8_of_74 : decode cX8_of 74 = .ok (.aload_n 3, 1) := by decide +kernel
theorem dX8_of_75 : decode cX8_of 75 = .ok (.getfield 129, 3) := by decide +kernel
theorem dX8_of_78 : decode cX8_of 78 = .ok (.ireturn, 1) := by decide +kernel
theorem dX8_of_79 : decode cX8_of 79 = .ok (.aload_n 3, 1) := by decide +kernel
theorem dX8_of_80 : decode cX8_of 80 = .ok (.getfield 132, 3) := by decide +kernel
theorem dX8_of_83 : decode cX8_of 83 = .ok (.ireturn, 1) := by decide +kernel
theorem dX8_of_84 : decode cX8_of 84 = .ok (.aload_n 3, 1) := by decide +kernel
theorem dX8_of_85 : decode cX8_of 85 = .ok (.getfield 135, 3) := by decide +kernel
theorem dX8_of_88 : decode cX8_of 88 = .ok (.ireturn, 1) := by decide +kernel
theorem dX8_of_89 : decode cX8_of 89 = .ok (.aload_n 3, 1) := by decide +kernel
theorem dX8_of_90 : decode cX8_of 90 = .ok (.invokevirtual 138, 3) := by decide +kernel
theorem dX8_of_93 : decode cX8_of 93 = .ok (.ifCond .eq 7, 3) := by decide +kernel
theorem dX8_of_96 : decode cX8_of 96 = .ok (.iconst 1, 1) := by decide +kernel
theorem dX8_of_97 : decode cX8_of 97 = .ok (.goto 4, 3) := by decide +kernel
theorem dX8_of_100 : decode cX8_of 100 = .ok (.iconst 0, 1) := by decide +kernel
theorem dX8_of_101 : decode cX8_of 101 = .ok (.ireturn, 1) := by decide +kernel
theorem dX8_of_102 : decode cX8_of 102 = .ok (.aload_n 3, 1) := by decide +kernel
theorem dX8_of_103 : decode cX8_of 103 = .ok (.invokevirtual 142, 3) := by decide +kernel
theorem dX8_of_106 : decode cX8_of 106 = .ok (.aload_n 3, 1) := by decide +kernel
theorem dX8_of_107 : decode cX8_of 107 = .ok (.getfield 129, 3) := by decide +kernel
theorem dX8_of_110 : decode cX8_of 110 = .ok (.isub, 1) := by decide +kernel
theorem dX8_of_111 : decode cX8_of 111 = .ok (.ireturn, 1) := by decide +kernel
theorem dX8_of_112 : decode cX8_of 112 = .ok (.aload_n 0, 1) := by decide +kernel
theorem dX8_of_113 : decode cX8_of 113 = .ok (.bipush (-2), 2) := by decide +kernel
theorem dX8_of_115 : decode cX8_of 115 = .ok (.invokevirtual 56, 3) := by decide +kernel
theorem dX8_of_118 : decode cX8_of 118 = .ok (.ireturn, 1) := by decide +kernel
theorem dX8_far_0 : decode cX8_far 0 = .ok (.aload_n 0, 1) := by decide +kernel
theorem dX8_far_1 : decode cX8_far 1 = .ok (.getfield 10, 3) := by decide +kernel
theorem dX8_far_4 : decode cX8_far 4 = .ok (.iload_n 1, 1) := by decide +kernel
theorem dX8_far_5 : decode cX8_far 5 = .ok (.invokevirtual 68, 3) := by decide +kernel
theorem dX8_far_8 : decode cX8_far 8 = .ok (.ifCond .eq 14, 3) := by decide +kernel
theorem dX8_far_11 : decode cX8_far 11 = .ok (.aload_n 0, 1) := by decide +kernel
theorem dX8_far_12 : decode cX8_far 12 = .ok (.getfield 10, 3) := by decide +kernel
theorem dX8_far_15 : decode cX8_far 15 = .ok (.iload_n 2, 1) := by decide +kernel
theorem dX8_far_16 : decode cX8_far 16 = .ok (.invokevirtual 68, 3) := by decide +kernel
theorem dX8_far_19 : decode cX8_far 19 = .ok (.ifCond .ne 10, 3) := by decide +kernel
theorem dX8_far_22 : decode cX8_far 22 = .ok (.aload_n 0, 1) := by decide +kernel
theorem dX8_far_23 : decode cX8_far 23 = .ok (.bipush (-2), 2) := by decide +kernel
theorem dX8_far_25 : decode cX8_far 25 = .ok (.invokevirtual 56, 3) := by decide +kernel
theorem dX8_far_28 : decode cX8_far 28 = .ok (.ireturn, 1) := by decide +kernel
theorem dX8_far_29 : decode cX8_far 29 = .ok (.aload_n 0, 1) := by decide +kernel
theorem dX8_far_30 : decode cX8_far 30 = .ok (.getfield 10, 3) := by decide +kernel
theorem dX8_far_33 : decode cX8_far 33 = .ok (.iload_n 1, 1) := by decide +kernel
theorem dX8_far_34 : decode cX8_far 34 = .ok (.invokevirtual 145, 3) := by decide +kernel
theorem dX8_far_37 : decode cX8_far 37 = .ok (.aload_n 0, 1) := by decide +kernel
theorem dX8_far_38 : decode cX8_far 38 = .ok (.getfield 10, 3) := by decide +kernel
theorem dX8_far_41 : decode cX8_far 41 = .ok (.getfield 148, 3) := by decide +kernel
theorem dX8_far_44 : decode cX8_far 44 = .ok (.iload_n 2, 1) := by decide +kernel
theorem dX8_far_45 : decode cX8_far 45 = .ok (.iaload, 1) := by decide +kernel
theorem dX8_far_46 : decode cX8_far 46 = .ok (.istore_n 3, 1) := by decide +kernel
theorem dX8_far_47 : decode cX8_far 47 = .ok (.iload_n 3, 1) := by decide +kernel
theorem dX8_far_48 : decode cX8_far 48 = .ok (.sipush 1000, 3) := by decide +kernel
theorem dX8_far_51 : decode cX8_far 51 = .ok (.if_icmp .ge 7, 3) := by decide +kernel
theorem dX8_far_54 : decode cX8_far 54 = .ok (.iload_n 3, 1) := by decide +kernel
theorem dX8_far_55 : decode cX8_far 55 = .ok (.goto 4, 3) := by decide +kernel
theorem dX8_far_58 : decode cX8_far 58 = .ok (.iconst (-1), 1) := by decide +kernel
theorem dX8_far_59 : decode cX8_far 59 = .ok (.ireturn, 1) := by decide +kernel
theorem dX8_allowed_0 : decode cX8_allowed 0 = .ok (.aload_n 0, 1) := by decide +kernel
theorem dX8_allowed_1 : decode cX8_allowed 1 = .ok (.iload_n 1, 1) := by decide +kernel
theorem dX8_allowed_2 : decode cX8_allowed 2 = .ok (.iload_n 2, 1) := by decide +kernel
theorem dX8_allowed_3 : decode cX8_allowed 3 = .ok (.iload_n 3, 1) := by decide +kernel
theorem dX8_allowed_4 : decode cX8_allowed 4 = .ok (.iload 4, 2) := by decide +kernel
theorem dX8_allowed_6 : decode cX8_allowed 6 = .ok (.iload 5, 2) := by decide +kernel
theorem dX8_allowed_8 : decode cX8_allowed 8 = .ok (.invokevirtual 152, 3) := by decide +kernel
theorem dX8_allowed_11 : decode cX8_allowed 11 = .ok (.ifCond .eq 13, 3) := by decide +kernel
theorem dX8_allowed_14 : decode cX8_allowed 14 = .ok (.iload 6, 2) := by decide +kernel
theorem dX8_allowed_16 : decode cX8_allowed 16 = .ok (.iconst 0, 1) := by decide +kernel
theorem dX8_allowed_17 : decode cX8_allowed 17 = .ok (.iconst 1, 1) := by decide +kernel
theorem dX8_allowed_18 : decode cX8_allowed 18 = .ok (.invokestatic 52, 3) := by decide +kernel
theorem dX8_allowed_21 : decode cX8_allowed 21 = .ok (.ifCond .ne 10, 3) := by decide +kernel
theorem dX8_allowed_24 : decode cX8_allowed 24 = .ok (.aload_n 0, 1) := by decide +kernel
theorem dX8_allowed_25 : decode cX8_allowed 25 = .ok (.bipush (-10), 2) := by decide +kernel
theorem dX8_allowed_27 : decode cX8_allowed 27 = .ok (.invokevirtual 56, 3) := by decide +kernel
theorem dX8_allowed_30 : decode cX8_allowed 30 = .ok (.ireturn, 1) := by decide +kernel
theorem dX8_allowed_31 : decode cX8_allowed 31 = .ok (.iload 4, 2) := by decide +kernel
theorem dX8_allowed_33 : decode cX8_allowed 33 = .ok (.iload 5, 2) := by decide +kernel
theorem dX8_allowed_35 : decode cX8_allowed 35 = .ok (.invokestatic 156, 3) := by decide +kernel
theorem dX8_allowed_38 : decode cX8_allowed 38 = .ok (.istore 7, 2) := by decide +kernel
theorem dX8_allowed_40 : decode cX8_allowed 40 = .ok (.iload 6, 2) := by decide +kernel
theorem dX8_allowed_42 : decode cX8_allowed 42 = .ok (.iconst 1, 1) := by decide +kernel
theorem dX8_allowed_43 : decode cX8_allowed 43 = .ok (.if_icmp .ne 16, 3) := by decide +kernel
theorem dX8_allowed_46 : decode cX8_allowed 46 = .ok (.aload_n 0, 1) := by decide +kernel
theorem dX8_allowed_47 : decode cX8_allowed 47 = .ok (.getfield 10, 3) := by decide +kernel
theorem dX8_allowed_50 : decode cX8_allowed 50 = .ok (.iload_n 1, 1) := by decide +kernel
theorem dX8_allowed_51 : decode cX8_allowed 51 = .ok (.iload_n 2, 1) := by decide +kernel
theorem dX8_allowed_52 : decode cX8_allowed 52 = .ok (.iload_n 3, 1) := by decide +kernel
theorem dX8_allowed_53 : decode cX8_allowed 53 = .ok (.iload 7, 2) := by decide +kernel
theorem dX8_allowed_55 : decode cX8_allowed 55 = .ok (.invokevirtual 159, 3) := by decide +kernel
theorem dX8_allowed_58 : decode cX8_allowed 58 = .ok (.ireturn, 1) := by decide +kernel
theorem dX8_allowed_59 : decode cX8_allowed 59 = .ok (.aload_n 0, 1) := by decide +kernel
theorem dX8_allowed_60 : decode cX8_allowed 60 = .ok (.getfield 10, 3) := by decide +kernel
theorem dX8_allowed_63 : decode cX8_allowed 63 = .ok (.iload_n 1, 1) := by decide +kernel
theorem dX8_allowed_64 : decode cX8_allowed 64 = .ok (.iload_n 2, 1) := by decide +kernel
theorem dX8_allowed_65 : decode cX8_allowed 65 = .ok (.iload_n 3, 1) := by decide +kernel
theorem dX8_allowed_66 : decode cX8_allowed 66 = .ok (.iload 7, 2) := by decide +kernel
theorem dX8_allowed_68 : decode cX8_allowed 68 = .ok (.invokevirtual 163, 3) := by decide +kernel
theorem dX8_allowed_71 : decode cX8_allowed 71 = .ok (.ifCond .eq 7, 3) := by decide +kernel
theorem dX8_allowed_74 : decode cX8_allowed 74 = .ok (.iconst 0, 1) := by decide +kernel
theorem dX8_allowed_75 : decode cX8_allowed 75 = .ok (.goto 4, 3) := by decide +kernel
theorem dX8_allowed_78 : decode cX8_allowed 78 = .ok (.iconst 1, 1) := by decide +kernel
theorem dX8_allowed_79 : decode cX8_allowed 79 = .ok (.ireturn, 1) := by decide +kernel
theorem dX8_nearest_0 : decode cX8_nearest 0 = .ok (.aload_n 0, 1) := by decide +kernel
theorem dX8_nearest_1 : decode cX8_nearest 1 = .ok (.iload_n 1, 1) := by decide +kernel
theorem dX8_nearest_2 : decode cX8_nearest 2 = .ok (.iload_n 2, 1) := by decide +kernel
theorem dX8_nearest_3 : decode cX8_nearest 3 = .ok (.iload_n 3, 1) := by decide +kernel
theorem dX8_nearest_4 : decode cX8_nearest 4 = .ok (.iload 4, 2) := by decide +kernel
theorem dX8_nearest_6 : decode cX8_nearest 6 = .ok (.iload 5, 2) := by decide +kernel
theorem dX8_nearest_8 : decode cX8_nearest 8 = .ok (.invokevirtual 152, 3) := by decide +kernel
theorem dX8_nearest_11 : decode cX8_nearest 11 = .ok (.ifCond .eq 13, 3) := by decide +kernel
theorem dX8_nearest_14 : decode cX8_nearest 14 = .ok (.iload 6, 2) := by decide +kernel
theorem dX8_nearest_16 : decode cX8_nearest 16 = .ok (.iconst 0, 1) := by decide +kernel
theorem dX8_nearest_17 : decode cX8_nearest 17 = .ok (.iconst 2, 1) := by decide +kernel
theorem dX8_nearest_18 : decode cX8_nearest 18 = .ok (.invokestatic 52, 3) := by decide +kernel
theorem dX8_nearest_21 : decode cX8_nearest 21 = .ok (.ifCond .ne 10, 3) := by decide +kernel
theorem dX8_nearest_24 : decode cX8_nearest 24 = .ok (.aload_n 0, 1) := by decide +kernel
theorem dX8_nearest_25 : decode cX8_nearest 25 = .ok (.bipush (-2), 2) := by decide +kernel
theorem dX8_nearest_27 : decode cX8_nearest 27 = .ok (.invokevirtual 56, 3) := by decide +kernel
theorem dX8_nearest_30 : decode cX8_nearest 30 = .ok (.ireturn, 1) := by decide +kernel
theorem dX8_nearest_31 : decode cX8_nearest 31 = .ok (.iload 4, 2) := by decide +kernel
theorem dX8_nearest_33 : decode cX8_nearest 33 = .ok (.iload 5, 2) := by decide +kernel
theorem dX8_nearest_35 : decode cX8_nearest 35 = .ok (.invokestatic 156, 3) := by decide +kernel
theorem dX8_nearest_38 : decode cX8_nearest 38 = .ok (.istore 7, 2) := by decide +kernel
theorem dX8_nearest_40 : decode cX8_nearest 40 = .ok (.aload_n 0, 1) := by decide +kernel
theorem dX8_nearest_41 : decode cX8_nearest 41 = .ok (.getfield 10, 3) := by decide +kernel
theorem dX8_nearest_44 : decode cX8_nearest 44 = .ok (.iload_n 1, 1) := by decide +kernel
theorem dX8_nearest_45 : decode cX8_nearest 45 = .ok (.invokevirtual 145, 3) := by decide +kernel
theorem dX8_nearest_48 : decode cX8_nearest 48 = .ok (.iload_n 3, 1) := by decide +kernel
theorem dX8_nearest_49 : decode cX8_nearest 49 = .ok (.istore 8, 2) := by decide +kernel
theorem dX8_nearest_51 : decode cX8_nearest 51 = .ok (.iload 8, 2) := by decide +kernel
theorem dX8_nearest_53 : decode cX8_nearest 53 = .ok (.bipush 60, 2) := by decide +kernel
theorem dX8_nearest_55 : decode cX8_nearest 55 = .ok (.if_icmp .ge 65, 3) := by decide +kernel
theorem dX8_nearest_58 : decode cX8_nearest 58 = .ok (.aload_n 0, 1) := by decide +kernel
theorem dX8_nearest_59 : decode cX8_nearest 59 = .ok (.getfield 10, 3) := by decide +kernel
theorem dX8_nearest_62 : decode cX8_nearest 62 = .ok (.iload_n 2, 1) := by decide +kernel
theorem dX8_nearest_63 : decode cX8_nearest 63 = .ok (.iload 8, 2) := by decide +kernel
theorem dX8_nearest_65 : decode cX8_nearest 65 = .ok (.iload 7, 2) := by decide +kernel
theorem dX8_nearest_67 : decode cX8_nearest 67 = .ok (.iload 8, 2) := by decide +kernel
theorem dX8_nearest_69 : decode cX8_nearest 69 = .ok (.iload_n 3, 1) := by decide +kernel
theorem dX8_nearest_70 : decode cX8_nearest 70 = .ok (.isub, 1) := by decide +kernel
theorem dX8_nearest_71 : decode cX8_nearest 71 = .ok (.invokevirtual 167, 3) := by decide +kernel
theorem dX8_nearest_74 : decode cX8_nearest 74 = .ok (.istore 9, 2) := by decide +kernel
theorem dX8_nearest_76 : decode cX8_nearest 76 = .ok (.iload 9, 2) := by decide +kernel
theorem dX8_nearest_78 : decode cX8_nearest 78 = .ok (.iconst (-1), 1) := by decide +kernel
theorem dX8_nearest_79 : decode cX8_nearest 79 = .ok (.if_icmp .eq 35, 3) := by decide +kernel
theorem dX8_nearest_82 : decode cX8_nearest 82 = .ok (.iload 6, 2) := by decide +kernel
theorem dX8_nearest_84 : decode cX8_nearest 84 = .ok (.ifCond .ne 8, 3) := by decide +kernel
theorem dX8_nearest_87 : decode cX8_nearest 87 = .ok (.iload 8, 2) := by decide +kernel
theorem dX8_nearest_89 : decode cX8_nearest 89 = .ok (.goto 24, 3) := by decide +kernel
theorem dX8_nearest_92 : decode cX8_nearest 92 = .ok (.iload 6, 2) := by decide +kernel
theorem dX8_nearest_94 : decode cX8_nearest 94 = .ok (.iconst 1, 1) := by decide +kernel
theorem dX8_nearest_95 : decode cX8_nearest 95 = .ok (.if_icmp .ne 8, 3) := by decide +kernel
theorem dX8_nearest_98 : decode cX8_nearest 98 = .ok (.iload 9, 2) := by decide +kernel
theorem dX8_nearest_100 : decode cX8_nearest 100 = .ok (.goto 13, 3) := by decide +kernel
theorem dX8_nearest_103 : decode cX8_nearest 103 = .ok (.aload_n 0, 1) := by decide +kernel
theorem dX8_nearest_104 : decode cX8_nearest 104 = .ok (.getfield 10, 3) := by decide +kernel
theorem dX8_nearest_107 : decode cX8_nearest 107 = .ok (.getfield 148, 3) := by decide +kernel
theorem dX8_nearest_110 : decode cX8_nearest 110 = .ok (.iload 9, 2) := by decide +kernel
theorem dX8_nearest_112 : decode cX8_nearest 112 = .ok (.iaload, 1) := by decide +kernel
theorem dX8_nearest_113 : decode cX8_nearest 113 = .ok (.ireturn, 1) := by decide +kernel
theorem dX8_nearest_114 : decode cX8_nearest 114 = .ok (.iinc 8 1, 3) := by decide +kernel
theorem dX8_nearest_117 : decode cX8_nearest 117 = .ok (.goto (-66), 3) := by decide +kernel
theorem dX8_nearest_120 : decode cX8_nearest 120 = .ok (.iconst (-1), 1) := by decide +kernel
theorem dX8_nearest_121 : decode cX8_nearest 121 = .ok (.ireturn, 1) := by decide +kernel
theorem dX8_contradict_0 : decode cX8_contradict 0 = .ok (.iload_n 1, 1) := by decide +kernel
theorem dX8_contradict_1 : decode cX8_contradict 1 = .ok (.iconst 0, 1) := by decide +kernel
theorem dX8_contradict_2 : decode cX8_contradict 2 = .ok (.iconst 5, 1) := by decide +kernel
theorem dX8_contradict_3 : decode cX8_contradict 3 = .ok (.invokestatic 52, 3) := by decide +kernel
theorem dX8_contradict_6 : decode cX8_contradict 6 = .ok (.ifCond .eq 18, 3) := by decide +kernel
theorem dX8_contradict_9 : decode cX8_contradict 9 = .ok (.iload_n 2, 1) := by decide +kernel
theorem dX8_contradict_10 : decode cX8_contradict 10 = .ok (.iconst 0, 1) := by decide +kernel
theorem dX8_contradict_11 : decode cX8_contradict 11 = .ok (.bipush 59, 2) := by decide +kernel
theorem dX8_contradict_13 : decode cX8_contradict 13 = .ok (.invokestatic 52, 3) := by decide +kernel
theorem dX8_contradict_16 : decode cX8_contradict 16 = .ok (.ifCond .eq 8, 3) := by decide +kernel
theorem dX8_contradict_19 : decode cX8_contradict 19 = .ok (.iload_n 3, 1) := by decide +kernel
theorem dX8_contradict_20 : decode cX8_contradict 20 = .ok (.iconst (-1), 1) := by decide +kernel
theorem dX8_contradict_21 : decode cX8_contradict 21 = .ok (.if_icmp .ge 10, 3) := by decide +kernel
theorem dX8_contradict_24 : decode cX8_contradict 24 = .ok (.aload_n 0, 1) := by decide +kernel
theorem dX8_contradict_25 : decode cX8_contradict 25 = .ok (.bipush (-10), 2) := by decide +kernel
theorem dX8_contradict_27 : decode cX8_contradict 27 = .ok (.invokevirtual 56, 3) := by decide +kernel
theorem dX8_contradict_30 : decode cX8_contradict 30 = .ok (.ireturn, 1) := by decide +kernel
theorem dX8_contradict_31 : decode cX8_contradict 31 = .ok (.iconst 0, 1) := by decide +kernel
theorem dX8_contradict_32 : decode cX8_contradict 32 = .ok (.istore 4, 2) := by decide +kernel
theorem dX8_contradict_34 : decode cX8_contradict 34 = .ok (.iconst 0, 1) := by decide +kernel
theorem dX8_contradict_35 : decode cX8_contradict 35 = .ok (.istore 5, 2) := by decide +kernel
theorem dX8_contradict_37 : decode cX8_contradict 37 = .ok (.iload 5, 2) := by decide +kernel
theorem dX8_contradict_39 : decode cX8_contradict 39 = .ok (.aload_n 0, 1) := by decide +kernel
theorem dX8_contradict_40 : decode cX8_contradict 40 = .ok (.getfield 10, 3) := by decide +kernel
theorem dX8_contradict_43 : decode cX8_contradict 43 = .ok (.getfield 46, 3) := by decide +kernel
theorem dX8_contradict_46 : decode cX8_contradict 46 = .ok (.if_icmp .ge 82, 3) := by decide +kernel
theorem dX8_contradict_49 : decode cX8_contradict 49 = .ok (.aload_n 0, 1) := by decide +kernel
theorem dX8_contradict_50 : decode cX8_contradict 50 = .ok (.getfield 10, 3) := by decide +kernel
theorem dX8_contradict_53 : decode cX8_contradict 53 = .ok (.iload 5, 2) := by decide +kernel
theorem dX8_contradict_55 : decode cX8_contradict 55 = .ok (.iload_n 1, 1) := by decide +kernel
theorem dX8_contradict_56 : decode cX8_contradict 56 = .ok (.iload_n 2, 1) := by decide +kernel
theorem dX8_contradict_57 : decode cX8_contradict 57 = .ok (.iconst 0, 1) := by decide +kernel
theorem dX8_contradict_58 : decode cX8_contradict 58 = .ok (.invokevirtual 163, 3) := by decide +kernel
theorem dX8_contradict_61 : decode cX8_contradict 61 = .ok (.istore 6, 2) := by decide +kernel
theorem dX8_contradict_63 : decode cX8_contradict 63 = .ok (.iload 5, 2) := by decide +kernel
theorem dX8_contradict_65 : decode cX8_contradict 65 = .ok (.iconst 1, 1) := by decide +kernel
theorem dX8_contradict_66 : decode cX8_contradict 66 = .ok (.iadd, 1) := by decide +kernel
theorem dX8_contradict_67 : decode cX8_contradict 67 = .ok (.istore 7, 2) := by decide +kernel
theorem dX8_contradict_69 : decode cX8_contradict 69 = .ok (.iload 7, 2) := by decide +kernel
theorem dX8_contradict_71 : decode cX8_contradict 71 = .ok (.aload_n 0, 1) := by decide +kernel
theorem dX8_contradict_72 : decode cX8_contradict 72 = .ok (.getfield 10, 3) := by decide +kernel
theorem dX8_contradict_75 : decode cX8_contradict 75 = .ok (.getfield 46, 3) := by decide +kernel
theorem dX8_contradict_78 : decode cX8_contradict 78 = .ok (.if_icmp .ge 44, 3) := by decide +kernel
theorem dX8_contradict_81 : decode cX8_contradict 81 = .ok (.aload_n 0, 1) := by decide +kernel
theorem dX8_contradict_82 : decode cX8_contradict 82 = .ok (.getfield 10, 3) := by decide +kernel
theorem dX8_contradict_85 : decode cX8_contradict 85 = .ok (.iload 7, 2) := by decide +kernel
theorem dX8_contradict_87 : decode cX8_contradict 87 = .ok (.iload_n 1, 1) := by decide +kernel
theorem dX8_contradict_88 : decode cX8_contradict 88 = .ok (.iload_n 2, 1) := by decide +kernel
theorem dX8_contradict_89 : decode cX8_contradict 89 = .ok (.iconst 0, 1) := by decide +kernel
theorem dX8_contradict_90 : decode cX8_contradict 90 = .ok (.invokevirtual 163, 3) := by decide +kernel
theorem dX8_contradict_93 : decode cX8_contradict 93 = .ok (.iload 6, 2) := by decide +kernel
theorem dX8_contradict_95 : decode cX8_contradict 95 = .ok (.if_icmp .eq 21, 3) := by decide +kernel
theorem dX8_contradict_98 : decode cX8_contradict 98 = .ok (.iload 4, 2) := by decide +kernel
theorem dX8_contradict_100 : decode cX8_contradict 100 = .ok (.iload_n 3, 1) := by decide +kernel
theorem dX8_contradict_101 : decode cX8_contradict 101 = .ok (.if_icmp .ne 12, 3) := by decide +kernel
theorem dX8_contradict_104 : decode cX8_contradict 104 = .ok (.bipush 10, 2) := by decide +kernel
theorem dX8_contradict_106 : decode cX8_contradict 106 = .ok (.iload 5, 2) := by decide +kernel
theorem dX8_contradict_108 : decode cX8_contradict 108 = .ok (.imul, 1) := by decide +kernel
theorem dX8_contradict_109 : decode cX8_contradict 109 = .ok (.iload 7, 2) := by decide +kernel
theorem dX8_contradict_111 : decode cX8_contradict 111 = .ok (.iadd, 1) := by decide +kernel
theorem dX8_contradict_112 : decode cX8_contradict 112 = .ok (.ireturn, 1) := by decide +kernel
theorem dX8_contradict_113 : decode cX8_contradict 113 = .ok (.iinc 4 1, 3) := by decide +kernel
theorem dX8_contradict_116 : decode cX8_contradict 116 = .ok (.iinc 7 1, 3) := by decide +kernel
theorem dX8_contradict_119 : decode cX8_contradict 119 = .ok (.goto (-50), 3) := by decide +kernel
theorem dX8_contradict_122 : decode cX8_contradict 122 = .ok (.iinc 5 1, 3) := by decide +kernel
theorem dX8_contradict_125 : decode cX8_contradict 125 = .ok (.goto (-88), 3) := by decide +kernel
theorem dX8_contradict_128 : decode cX8_contradict 128 = .ok (.iload_n 3, 1) := by decide +kernel
theorem dX8_contradict_129 : decode cX8_contradict 129 = .ok (.iconst (-1), 1) := by decide +kernel
theorem dX8_contradict_130 : decode cX8_contradict 130 = .ok (.if_icmp .ne 8, 3) := by decide +kernel
theorem dX8_contradict_133 : decode cX8_contradict 133 = .ok (.iload 4, 2) := by decide +kernel
theorem dX8_contradict_135 : decode cX8_contradict 135 = .ok (.goto 5, 3) := by decide +kernel
theorem dX8_contradict_138 : decode cX8_contradict 138 = .ok (.bipush (-5), 2) := by decide +kernel
theorem dX8_contradict_140 : decode cX8_contradict 140 = .ok (.ireturn, 1) := by decide +kernel
theorem dX8_settle_0 : decode cX8_settle 0 = .ok (.iload_n 1, 1) := by decide +kernel
theorem dX8_settle_1 : decode cX8_settle 1 = .ok (.iconst 0, 1) := by decide +kernel
theorem dX8_settle_2 : decode cX8_settle 2 = .ok (.bipush 63, 2) := by decide +kernel
theorem dX8_settle_4 : decode cX8_settle 4 = .ok (.invokestatic 52, 3) := by decide +kernel
theorem dX8_settle_7 : decode cX8_settle 7 = .ok (.ifCond .eq 13, 3) := by decide +kernel
theorem dX8_settle_10 : decode cX8_settle 10 = .ok (.iload_n 2, 1) := by decide +kernel
theorem dX8_settle_11 : decode cX8_settle 11 = .ok (.iconst 0, 1) := by decide +kernel
theorem dX8_settle_12 : decode cX8_settle 12 = .ok (.bipush 59, 2) := by decide +kernel
theorem dX8_settle_14 : decode cX8_settle 14 = .ok (.invokestatic 52, 3) := by decide +kernel
theorem dX8_settle_17 : decode cX8_settle 17 = .ok (.ifCond .ne 10, 3) := by decide +kernel
theorem dX8_settle_20 : decode cX8_settle 20 = .ok (.aload_n 0, 1) := by decide +kernel
theorem dX8_settle_21 : decode cX8_settle 21 = .ok (.bipush (-2), 2) := by decide +kernel
theorem dX8_settle_23 : decode cX8_settle 23 = .ok (.invokevirtual 56, 3) := by decide +kernel
theorem dX8_settle_26 : decode cX8_settle 26 = .ok (.ireturn, 1) := by decide +kernel
theorem dX8_settle_27 : decode cX8_settle 27 = .ok (.aload_n 0, 1) := by decide +kernel
theorem dX8_settle_28 : decode cX8_settle 28 = .ok (.getfield 10, 3) := by decide +kernel
theorem dX8_settle_31 : decode cX8_settle 31 = .ok (.iload_n 1, 1) := by decide +kernel
theorem dX8_settle_32 : decode cX8_settle 32 = .ok (.iload_n 2, 1) := by decide +kernel
theorem dX8_settle_33 : decode cX8_settle 33 = .ok (.invokevirtual 170, 3) := by decide +kernel
theorem dX8_settle_36 : decode cX8_settle 36 = .ok (.aload_n 0, 1) := by decide +kernel
theorem dX8_settle_37 : decode cX8_settle 37 = .ok (.getfield 10, 3) := by decide +kernel
theorem dX8_settle_40 : decode cX8_settle 40 = .ok (.invokevirtual 174, 3) := by decide +kernel
theorem dX8_settle_43 : decode cX8_settle 43 = .ok (.istore_n 3, 1) := by decide +kernel
theorem dX8_settle_44 : decode cX8_settle 44 = .ok (.iconst 1, 1) := by decide +kernel
theorem dX8_settle_45 : decode cX8_settle 45 = .ok (.aload_n 0, 1) := by decide +kernel
theorem dX8_settle_46 : decode cX8_settle 46 = .ok (.getfield 10, 3) := by decide +kernel
theorem dX8_settle_49 : decode cX8_settle 49 = .ok (.getfield 80, 3) := by decide +kernel
theorem dX8_settle_52 : decode cX8_settle 52 = .ok (.ishl, 1) := by decide +kernel
theorem dX8_settle_53 : decode cX8_settle 53 = .ok (.iconst 1, 1) := by decide +kernel
theorem dX8_settle_54 : decode cX8_settle 54 = .ok (.isub, 1) := by decide +kernel
theorem dX8_settle_55 : decode cX8_settle 55 = .ok (.istore 4, 2) := by decide +kernel
theorem dX8_settle_57 : decode cX8_settle 57 = .ok (.iload 4, 2) := by decide +kernel
theorem dX8_settle_59 : decode cX8_settle 59 = .ok (.istore 5, 2) := by decide +kernel
theorem dX8_settle_61 : decode cX8_settle 61 = .ok (.iconst 0, 1) := by decide +kernel
theorem dX8_settle_62 : decode cX8_settle 62 = .ok (.istore 6, 2) := by decide +kernel
theorem dX8_settle_64 : decode cX8_settle 64 = .ok (.iload 6, 2) := by decide +kernel
theorem dX8_settle_66 : decode cX8_settle 66 = .ok (.iload 4, 2) := by decide +kernel
theorem dX8_settle_68 : decode cX8_settle 68 = .ok (.if_icmp .ge 40, 3) := by decide +kernel
theorem dX8_settle_71 : decode cX8_settle 71 = .ok (.iload 6, 2) := by decide +kernel
theorem dX8_settle_73 : decode cX8_settle 73 = .ok (.invokestatic 177, 3) := by decide +kernel
theorem dX8_settle_76 : decode cX8_settle 76 = .ok (.iload 5, 2) := by decide +kernel
theorem dX8_settle_78 : decode cX8_settle 78 = .ok (.invokestatic 177, 3) := by decide +kernel
theorem dX8_settle_81 : decode cX8_settle 81 = .ok (.if_icmp .ge 21, 3) := by decide +kernel
theorem dX8_settle_84 : decode cX8_settle 84 = .ok (.aload_n 0, 1) := by decide +kernel
theorem dX8_settle_85 : decode cX8_settle 85 = .ok (.getfield 10, 3) := by decide +kernel
theorem dX8_settle_88 : decode cX8_settle 88 = .ok (.iload_n 1, 1) := by decide +kernel
theorem dX8_settle_89 : decode cX8_settle 89 = .ok (.iload 6, 2) := by decide +kernel
theorem dX8_settle_91 : decode cX8_settle 91 = .ok (.iload_n 3, 1) := by decide +kernel
theorem dX8_settle_92 : decode cX8_settle 92 = .ok (.invokevirtual 182, 3) := by decide +kernel
theorem dX8_settle_95 : decode cX8_settle 95 = .ok (.ifCond .eq 7, 3) := by decide +kernel
theorem dX8_settle_98 : decode cX8_settle 98 = .ok (.iload 6, 2) := by decide +kernel
theorem dX8_settle_100 : decode cX8_settle 100 = .ok (.istore 5, 2) := by decide +kernel
theorem dX8_settle_102 : decode cX8_settle 102 = .ok (.iinc 6 1, 3) := by decide +kernel
theorem dX8_settle_105 : decode cX8_settle 105 = .ok (.goto (-41), 3) := by decide +kernel
theorem dX8_settle_108 : decode cX8_settle 108 = .ok (.iload 5, 2) := by decide +kernel
theorem dX8_settle_110 : decode cX8_settle 110 = .ok (.ireturn, 1) := by decide +kernel
theorem dX8_reads_0 : decode cX8_reads 0 = .ok (.aload_n 0, 1) := by decide +kernel
theorem dX8_reads_1 : decode cX8_reads 1 = .ok (.iload_n 1, 1) := by decide +kernel
theorem dX8_reads_2 : decode cX8_reads 2 = .ok (.iload_n 2, 1) := by decide +kernel
theorem dX8_reads_3 : decode cX8_reads 3 = .ok (.iload_n 3, 1) := by decide +kernel
theorem dX8_reads_4 : decode cX8_reads 4 = .ok (.iload 4, 2) := by decide +kernel
theorem dX8_reads_6 : decode cX8_reads 6 = .ok (.iload 5, 2) := by decide +kernel
theorem dX8_reads_8 : decode cX8_reads 8 = .ok (.invokevirtual 152, 3) := by decide +kernel
theorem dX8_reads_11 : decode cX8_reads 11 = .ok (.ifCond .ne 10, 3) := by decide +kernel
theorem dX8_reads_14 : decode cX8_reads 14 = .ok (.aload_n 0, 1) := by decide +kernel
theorem dX8_reads_15 : decode cX8_reads 15 = .ok (.bipush (-2), 2) := by decide +kernel
theorem dX8_reads_17 : decode cX8_reads 17 = .ok (.invokevirtual 56, 3) := by decide +kernel
theorem dX8_reads_20 : decode cX8_reads 20 = .ok (.ireturn, 1) := by decide +kernel
theorem dX8_reads_21 : decode cX8_reads 21 = .ok (.aload_n 0, 1) := by decide +kernel
theorem dX8_reads_22 : decode cX8_reads 22 = .ok (.getfield 10, 3) := by decide +kernel
theorem dX8_reads_25 : decode cX8_reads 25 = .ok (.iload_n 1, 1) := by decide +kernel
theorem dX8_reads_26 : decode cX8_reads 26 = .ok (.iload_n 2, 1) := by decide +kernel
theorem dX8_reads_27 : decode cX8_reads 27 = .ok (.iload_n 3, 1) := by decide +kernel
theorem dX8_reads_28 : decode cX8_reads 28 = .ok (.iload 4, 2) := by decide +kernel
theorem dX8_reads_30 : decode cX8_reads 30 = .ok (.iload 5, 2) := by decide +kernel
theorem dX8_reads_32 : decode cX8_reads 32 = .ok (.invokestatic 156, 3) := by decide +kernel
theorem dX8_reads_35 : decode cX8_reads 35 = .ok (.invokevirtual 185, 3) := by decide +kernel
theorem dX8_reads_38 : decode cX8_reads 38 = .ok (.istore 6, 2) := by decide +kernel
theorem dX8_reads_40 : decode cX8_reads 40 = .ok (.aload_n 0, 1) := by decide +kernel
theorem dX8_reads_41 : decode cX8_reads 41 = .ok (.getfield 10, 3) := by decide +kernel
theorem dX8_reads_44 : decode cX8_reads 44 = .ok (.invokevirtual 174, 3) := by decide +kernel
theorem dX8_reads_47 : decode cX8_reads 47 = .ok (.istore 7, 2) := by decide +kernel
theorem dX8_reads_49 : decode cX8_reads 49 = .ok (.iconst 0, 1) := by decide +kernel
theorem dX8_reads_50 : decode cX8_reads 50 = .ok (.istore 8, 2) := by decide +kernel
theorem dX8_reads_52 : decode cX8_reads 52 = .ok (.iconst 0, 1) := by decide +kernel
theorem dX8_reads_53 : decode cX8_reads 53 = .ok (.istore 9, 2) := by decide +kernel
theorem dX8_reads_55 : decode cX8_reads 55 = .ok (.iload 9, 2) := by decide +kernel
theorem dX8_reads_57 : decode cX8_reads 57 = .ok (.iconst 4, 1) := by decide +kernel
theorem dX8_reads_58 : decode cX8_reads 58 = .ok (.if_icmp .ge 30, 3) := by decide +kernel
theorem dX8_reads_61 : decode cX8_reads 61 = .ok (.iload 9, 2) := by decide +kernel
theorem dX8_reads_63 : decode cX8_reads 63 = .ok (.iload 6, 2) := by decide +kernel
theorem dX8_reads_65 : decode cX8_reads 65 = .ok (.iload 7, 2) := by decide +kernel
theorem dX8_reads_67 : decode cX8_reads 67 = .ok (.invokestatic 188, 3) := by decide +kernel
theorem dX8_reads_70 : decode cX8_reads 70 = .ok (.ifCond .ne 12, 3) := by decide +kernel
theorem dX8_reads_73 : decode cX8_reads 73 = .ok (.iload 8, 2) := by decide +kernel
theorem dX8_reads_75 : decode cX8_reads 75 = .ok (.iconst 1, 1) := by decide +kernel
theorem dX8_reads_76 : decode cX8_reads 76 = .ok (.iload 9, 2) := by decide +kernel
theorem dX8_reads_78 : decode cX8_reads 78 = .ok (.ishl, 1) := by decide +kernel
theorem dX8_reads_79 : decode cX8_reads 79 = .ok (.ior, 1) := by decide +kernel
theorem dX8_reads_80 : decode cX8_reads 80 = .ok (.istore 8, 2) := by decide +kernel
theorem dX8_reads_82 : decode cX8_reads 82 = .ok (.iinc 9 1, 3) := by decide +kernel
theorem dX8_reads_85 : decode cX8_reads 85 = .ok (.goto (-30), 3) := by decide +kernel
theorem dX8_reads_88 : decode cX8_reads 88 = .ok (.iload 8, 2) := by decide +kernel
theorem dX8_reads_90 : decode cX8_reads 90 = .ok (.ireturn, 1) := by decide +kernel
theorem dX8_firstDay_0 : decode cX8_firstDay 0 = .ok (.iload_n 1, 1) := by decide +kernel
theorem dX8_firstDay_1 : decode cX8_firstDay 1 = .ok (.istore 5, 2) := by decide +kernel
theorem dX8_firstDay_3 : decode cX8_firstDay 3 = .ok (.iload_n 2, 1) := by decide +kernel
theorem dX8_firstDay_4 : decode cX8_firstDay 4 = .ok (.istore 6, 2) := by decide +kernel
theorem dX8_firstDay_6 : decode cX8_firstDay 6 = .ok (.iconst 0, 1) := by decide +kernel
theorem dX8_firstDay_7 : decode cX8_firstDay 7 = .ok (.istore 7, 2) := by decide +kernel
theorem dX8_firstDay_9 : decode cX8_firstDay 9 = .ok (.iload 7, 2) := by decide +kernel
theorem dX8_firstDay_11 : decode cX8_firstDay 11 = .ok (.bipush 60, 2) := by decide +kernel
theorem dX8_firstDay_13 : decode cX8_firstDay 13 = .ok (.if_icmp .ge 58, 3) := by decide +kernel
theorem dX8_firstDay_16 : decode cX8_firstDay 16 = .ok (.aload_n 0, 1) := by decide +kernel
theorem dX8_firstDay_17 : decode cX8_firstDay 17 = .ok (.getfield 10, 3) := by decide +kernel
theorem dX8_firstDay_20 : decode cX8_firstDay 20 = .ok (.iload_n 3, 1) := by decide +kernel
theorem dX8_firstDay_21 : decode cX8_firstDay 21 = .ok (.iload 7, 2) := by decide +kernel
theorem dX8_firstDay_23 : decode cX8_firstDay 23 = .ok (.iload 4, 2) := by decide +kernel
theorem dX8_firstDay_25 : decode cX8_firstDay 25 = .ok (.invokevirtual 241, 3) := by decide +kernel
theorem dX8_firstDay_28 : decode cX8_firstDay 28 = .ok (.istore 8, 2) := by decide +kernel
theorem dX8_firstDay_30 : decode cX8_firstDay 30 = .ok (.iload 5, 2) := by decide +kernel
theorem dX8_firstDay_32 : decode cX8_firstDay 32 = .ok (.iload 8, 2) := by decide +kernel
theorem dX8_firstDay_34 : decode cX8_firstDay 34 = .ok (.isub, 1) := by decide +kernel
theorem dX8_firstDay_35 : decode cX8_firstDay 35 = .ok (.istore 5, 2) := by decide +kernel
theorem dX8_firstDay_37 : decode cX8_firstDay 37 = .ok (.iload 6, 2) := by decide +kernel
theorem dX8_firstDay_39 : decode cX8_firstDay 39 = .ok (.aload_n 0, 1) := by decide +kernel
theorem dX8_firstDay_40 : decode cX8_firstDay 40 = .ok (.getfield 10, 3) := by decide +kernel
theorem dX8_firstDay_43 : decode cX8_firstDay 43 = .ok (.getfield 46, 3) := by decide +kernel
theorem dX8_firstDay_46 : decode cX8_firstDay 46 = .ok (.iload 8, 2) := by decide +kernel
theorem dX8_firstDay_48 : decode cX8_firstDay 48 = .ok (.isub, 1) := by decide +kernel
theorem dX8_firstDay_49 : decode cX8_firstDay 49 = .ok (.isub, 1) := by decide +kernel
theorem dX8_firstDay_50 : decode cX8_firstDay 50 = .ok (.istore 6, 2) := by decide +kernel
theorem dX8_firstDay_52 : decode cX8_firstDay 52 = .ok (.iload 5, 2) := by decide +kernel
theorem dX8_firstDay_54 : decode cX8_firstDay 54 = .ok (.ifCond .le 8, 3) := by decide +kernel
theorem dX8_firstDay_57 : decode cX8_firstDay 57 = .ok (.iload 6, 2) := by decide +kernel
theorem dX8_firstDay_59 : decode cX8_firstDay 59 = .ok (.ifCond .gt 6, 3) := by decide +kernel
theorem dX8_firstDay_62 : decode cX8_firstDay 62 = .ok (.iload 7, 2) := by decide +kernel
theorem dX8_firstDay_64 : decode cX8_firstDay 64 = .ok (.ireturn, 1) := by decide +kernel
theorem dX8_firstDay_65 : decode cX8_firstDay 65 = .ok (.iinc 7 1, 3) := by decide +kernel
theorem dX8_firstDay_68 : decode cX8_firstDay 68 = .ok (.goto (-59), 3) := by decide +kernel
theorem dX8_firstDay_71 : decode cX8_firstDay 71 = .ok (.bipush 60, 2) := by decide +kernel
theorem dX8_firstDay_73 : decode cX8_firstDay 73 = .ok (.ireturn, 1) := by decide +kernel
theorem dX8_whoGivesIn_0 : decode cX8_whoGivesIn 0 = .ok (.iload_n 1, 1) := by decide +kernel
theorem dX8_whoGivesIn_1 : decode cX8_whoGivesIn 1 = .ok (.istore 5, 2) := by decide +kernel
theorem dX8_whoGivesIn_3 : decode cX8_whoGivesIn 3 = .ok (.iload_n 2, 1) := by decide +kernel
theorem dX8_whoGivesIn_4 : decode cX8_whoGivesIn 4 = .ok (.istore 6, 2) := by decide +kernel
theorem dX8_whoGivesIn_6 : decode cX8_whoGivesIn 6 = .ok (.iconst 0, 1) := by decide +kernel
theorem dX8_whoGivesIn_7 : decode cX8_whoGivesIn 7 = .ok (.istore 7, 2) := by decide +kernel
theorem dX8_whoGivesIn_9 : decode cX8_whoGivesIn 9 = .ok (.iload 7, 2) := by decide +kernel
theorem dX8_whoGivesIn_11 : decode cX8_whoGivesIn 11 = .ok (.iload 4, 2) := by decide +kernel
theorem dX8_whoGivesIn_13 : decode cX8_whoGivesIn 13 = .ok (.if_icmp .gt 44, 3) := by decide +kernel
theorem dX8_whoGivesIn_16 : decode cX8_whoGivesIn 16 = .ok (.aload_n 0, 1) := by decide +kernel
theorem dX8_whoGivesIn_17 : decode cX8_whoGivesIn 17 = .ok (.getfield 10, 3) := by decide +kernel
theorem dX8_whoGivesIn_20 : decode cX8_whoGivesIn 20 = .ok (.iload_n 3, 1) := by decide +kernel
theorem dX8_whoGivesIn_21 : decode cX8_whoGivesIn 21 = .ok (.iload 7, 2) := by decide +kernel
theorem dX8_whoGivesIn_23 : decode cX8_whoGivesIn 23 = .ok (.iconst 0, 1) := by decide +kernel
theorem dX8_whoGivesIn_24 : decode cX8_whoGivesIn 24 = .ok (.invokevirtual 241, 3) := by decide +kernel
theorem dX8_whoGivesIn_27 : decode cX8_whoGivesIn 27 = .ok (.istore 8, 2) := by decide +kernel
theorem dX8_whoGivesIn_29 : decode cX8_whoGivesIn 29 = .ok (.iload 5, 2) := by decide +kernel
theorem dX8_whoGivesIn_31 : decode cX8_whoGivesIn 31 = .ok (.iload 8, 2) := by decide +kernel
theorem dX8_whoGivesIn_33 : decode cX8_whoGivesIn 33 = .ok (.isub, 1) := by decide +kernel
theorem dX8_whoGivesIn_34 : decode cX8_whoGivesIn 34 = .ok (.istore 5, 2) := by decide +kernel
theorem dX8_whoGivesIn_36 : decode cX8_whoGivesIn 36 = .ok (.iload 6, 2) := by decide +kernel
theorem dX8_whoGivesIn_38 : decode cX8_whoGivesIn 38 = .ok (.aload_n 0, 1) := by decide +kernel
theorem dX8_whoGivesIn_39 : decode cX8_whoGivesIn 39 = .ok (.getfield 10, 3) := by decide +kernel
theorem dX8_whoGivesIn_42 : decode cX8_whoGivesIn 42 = .ok (.getfield 46, 3) := by decide +kernel
theorem dX8_whoGivesIn_45 : decode cX8_whoGivesIn 45 = .ok (.iload 8, 2) := by decide +kernel
theorem dX8_whoGivesIn_47 : decode cX8_whoGivesIn 47 = .ok (.isub, 1) := by decide +kernel
theorem dX8_whoGivesIn_48 : decode cX8_whoGivesIn 48 = .ok (.isub, 1) := by decide +kernel
theorem dX8_whoGivesIn_49 : decode cX8_whoGivesIn 49 = .ok (.istore 6, 2) := by decide +kernel
theorem dX8_whoGivesIn_51 : decode cX8_whoGivesIn 51 = .ok (.iinc 7 1, 3) := by decide +kernel
theorem dX8_whoGivesIn_54 : decode cX8_whoGivesIn 54 = .ok (.goto (-45), 3) := by decide +kernel
theorem dX8_whoGivesIn_57 : decode cX8_whoGivesIn 57 = .ok (.iload 5, 2) := by decide +kernel
theorem dX8_whoGivesIn_59 : decode cX8_whoGivesIn 59 = .ok (.ifCond .le 5, 3) := by decide +kernel
theorem dX8_whoGivesIn_62 : decode cX8_whoGivesIn 62 = .ok (.iconst 1, 1) := by decide +kernel
theorem dX8_whoGivesIn_63 : decode cX8_whoGivesIn 63 = .ok (.ireturn, 1) := by decide +kernel
theorem dX8_whoGivesIn_64 : decode cX8_whoGivesIn 64 = .ok (.iload 6, 2) := by decide +kernel
theorem dX8_whoGivesIn_66 : decode cX8_whoGivesIn 66 = .ok (.ifCond .le 7, 3) := by decide +kernel
theorem dX8_whoGivesIn_69 : decode cX8_whoGivesIn 69 = .ok (.iconst 0, 1) := by decide +kernel
theorem dX8_whoGivesIn_70 : decode cX8_whoGivesIn 70 = .ok (.goto 4, 3) := by decide +kernel
theorem dX8_whoGivesIn_73 : decode cX8_whoGivesIn 73 = .ok (.iconst 2, 1) := by decide +kernel
theorem dX8_whoGivesIn_74 : decode cX8_whoGivesIn 74 = .ok (.ireturn, 1) := by decide +kernel
theorem dX8_patience_0 : decode cX8_patience 0 = .ok (.iload_n 1, 1) := by decide +kernel
theorem dX8_patience_1 : decode cX8_patience 1 = .ok (.iload_n 2, 1) := by decide +kernel
theorem dX8_patience_2 : decode cX8_patience 2 = .ok (.iload_n 3, 1) := by decide +kernel
theorem dX8_patience_3 : decode cX8_patience 3 = .ok (.invokestatic 191, 3) := by decide +kernel
theorem dX8_patience_6 : decode cX8_patience 6 = .ok (.ifCond .eq 13, 3) := by decide +kernel
theorem dX8_patience_9 : decode cX8_patience 9 = .ok (.iload 4, 2) := by decide +kernel
theorem dX8_patience_11 : decode cX8_patience 11 = .ok (.iconst 0, 1) := by decide +kernel
theorem dX8_patience_12 : decode cX8_patience 12 = .ok (.iconst 1, 1) := by decide +kernel
theorem dX8_patience_13 : decode cX8_patience 13 = .ok (.invokestatic 52, 3) := by decide +kernel
theorem dX8_patience_16 : decode cX8_patience 16 = .ok (.ifCond .ne 10, 3) := by decide +kernel
theorem dX8_patience_19 : decode cX8_patience 19 = .ok (.aload_n 0, 1) := by decide +kernel
theorem dX8_patience_20 : decode cX8_patience 20 = .ok (.bipush (-2), 2) := by decide +kernel
theorem dX8_patience_22 : decode cX8_patience 22 = .ok (.invokevirtual 56, 3) := by decide +kernel
theorem dX8_patience_25 : decode cX8_patience 25 = .ok (.ireturn, 1) := by decide +kernel
theorem dX8_patience_26 : decode cX8_patience 26 = .ok (.aload_n 0, 1) := by decide +kernel
theorem dX8_patience_27 : decode cX8_patience 27 = .ok (.iload_n 1, 1) := by decide +kernel
theorem dX8_patience_28 : decode cX8_patience 28 = .ok (.iload_n 2, 1) := by decide +kernel
theorem dX8_patience_29 : decode cX8_patience 29 = .ok (.iload_n 3, 1) := by decide +kernel
theorem dX8_patience_30 : decode cX8_patience 30 = .ok (.iconst 0, 1) := by decide +kernel
theorem dX8_patience_31 : decode cX8_patience 31 = .ok (.invokevirtual 194, 3) := by decide +kernel
theorem dX8_patience_34 : decode cX8_patience 34 = .ok (.istore 5, 2) := by decide +kernel
theorem dX8_patience_36 : decode cX8_patience 36 = .ok (.iload 5, 2) := by decide +kernel
theorem dX8_patience_38 : decode cX8_patience 38 = .ok (.bipush 60, 2) := by decide +kernel
theorem dX8_patience_40 : decode cX8_patience 40 = .ok (.if_icmp .lt 5, 3) := by decide +kernel
theorem dX8_patience_43 : decode cX8_patience 43 = .ok (.iconst (-1), 1) := by decide +kernel
theorem dX8_patience_44 : decode cX8_patience 44 = .ok (.ireturn, 1) := by decide +kernel
theorem dX8_patience_45 : decode cX8_patience 45 = .ok (.iload 4, 2) := by decide +kernel
theorem dX8_patience_47 : decode cX8_patience 47 = .ok (.ifCond .ne 8, 3) := by decide +kernel
theorem dX8_patience_50 : decode cX8_patience 50 = .ok (.iload 5, 2) := by decide +kernel
theorem dX8_patience_52 : decode cX8_patience 52 = .ok (.goto 12, 3) := by decide +kernel
theorem dX8_patience_55 : decode cX8_patience 55 = .ok (.aload_n 0, 1) := by decide +kernel
theorem dX8_patience_56 : decode cX8_patience 56 = .ok (.iload_n 1, 1) := by decide +kernel
theorem dX8_patience_57 : decode cX8_patience 57 = .ok (.iload_n 2, 1) := by decide +kernel
theorem dX8_patience_58 : decode cX8_patience 58 = .ok (.iload_n 3, 1) := by decide +kernel
theorem dX8_patience_59 : decode cX8_patience 59 = .ok (.iload 5, 2) := by decide +kernel
theorem dX8_patience_61 : decode cX8_patience 61 = .ok (.invokevirtual 197, 3) := by decide +kernel
theorem dX8_patience_64 : decode cX8_patience 64 = .ok (.ireturn, 1) := by decide +kernel
theorem dX8_concede_0 : decode cX8_concede 0 = .ok (.iload_n 1, 1) := by decide +kernel
theorem dX8_concede_1 : decode cX8_concede 1 = .ok (.iconst 0, 1) := by decide +kernel
theorem dX8_concede_2 : decode cX8_concede 2 = .ok (.aload_n 0, 1) := by decide +kernel
theorem dX8_concede_3 : decode cX8_concede 3 = .ok (.getfield 10, 3) := by decide +kernel
theorem dX8_concede_6 : decode cX8_concede 6 = .ok (.getfield 80, 3) := by decide +kernel
theorem dX8_concede_9 : decode cX8_concede 9 = .ok (.iconst 1, 1) := by decide +kernel
theorem dX8_concede_10 : decode cX8_concede 10 = .ok (.isub, 1) := by decide +kernel
theorem dX8_concede_11 : decode cX8_concede 11 = .ok (.invokestatic 52, 3) := by decide +kernel
theorem dX8_concede_14 : decode cX8_concede 14 = .ok (.ifCond .eq 13, 3) := by decide +kernel
theorem dX8_concede_17 : decode cX8_concede 17 = .ok (.iload_n 2, 1) := by decide +kernel
theorem dX8_concede_18 : decode cX8_concede 18 = .ok (.iload_n 3, 1) := by decide +kernel
theorem dX8_concede_19 : decode cX8_concede 19 = .ok (.iload 4, 2) := by decide +kernel
theorem dX8_concede_21 : decode cX8_concede 21 = .ok (.invokestatic 191, 3) := by decide +kernel
theorem dX8_concede_24 : decode cX8_concede 24 = .ok (.ifCond .ne 10, 3) := by decide +kernel
theorem dX8_concede_27 : decode cX8_concede 27 = .ok (.aload_n 0, 1) := by decide +kernel
theorem dX8_concede_28 : decode cX8_concede 28 = .ok (.bipush (-100), 2) := by decide +kernel
theorem dX8_concede_30 : decode cX8_concede 30 = .ok (.invokevirtual 56, 3) := by decide +kernel
theorem dX8_concede_33 : decode cX8_concede 33 = .ok (.ireturn, 1) := by decide +kernel
theorem dX8_concede_34 : decode cX8_concede 34 = .ok (.aload_n 0, 1) := by decide +kernel
theorem dX8_concede_35 : decode cX8_concede 35 = .ok (.iload_n 2, 1) := by decide +kernel
theorem dX8_concede_36 : decode cX8_concede 36 = .ok (.iload_n 3, 1) := by decide +kernel
theorem dX8_concede_37 : decode cX8_concede 37 = .ok (.iload 4, 2) := by decide +kernel
theorem dX8_concede_39 : decode cX8_concede 39 = .ok (.iconst 1, 1) := by decide +kernel
theorem dX8_concede_40 : decode cX8_concede 40 = .ok (.iload_n 1, 1) := by decide +kernel
theorem dX8_concede_41 : decode cX8_concede 41 = .ok (.ishl, 1) := by decide +kernel
theorem dX8_concede_42 : decode cX8_concede 42 = .ok (.invokevirtual 194, 3) := by decide +kernel
theorem dX8_concede_45 : decode cX8_concede 45 = .ok (.aload_n 0, 1) := by decide +kernel
theorem dX8_concede_46 : decode cX8_concede 46 = .ok (.iload_n 2, 1) := by decide +kernel
theorem dX8_concede_47 : decode cX8_concede 47 = .ok (.iload_n 3, 1) := by decide +kernel
theorem dX8_concede_48 : decode cX8_concede 48 = .ok (.iload 4, 2) := by decide +kernel
theorem dX8_concede_50 : decode cX8_concede 50 = .ok (.iconst 0, 1) := by decide +kernel
theorem dX8_concede_51 : decode cX8_concede 51 = .ok (.invokevirtual 194, 3) := by decide +kernel
theorem dX8_concede_54 : decode cX8_concede 54 = .ok (.isub, 1) := by decide +kernel
theorem dX8_concede_55 : decode cX8_concede 55 = .ok (.ireturn, 1) := by decide +kernel
theorem dX8_presses_0 : decode cX8_presses 0 = .ok (.iload_n 1, 1) := by decide +kernel
theorem dX8_presses_1 : decode cX8_presses 1 = .ok (.iconst 0, 1) := by decide +kernel
theorem dX8_presses_2 : decode cX8_presses 2 = .ok (.bipush 63, 2) := by decide +kernel
theorem dX8_presses_4 : decode cX8_presses 4 = .ok (.invokestatic 52, 3) := by decide +kernel
theorem dX8_presses_7 : decode cX8_presses 7 = .ok (.ifCond .eq 12, 3) := by decide +kernel
theorem dX8_presses_10 : decode cX8_presses 10 = .ok (.iload_n 2, 1) := by decide +kernel
theorem dX8_presses_11 : decode cX8_presses 11 = .ok (.iconst 0, 1) := by decide +kernel
theorem dX8_presses_12 : decode cX8_presses 12 = .ok (.iconst 1, 1) := by decide +kernel
theorem dX8_presses_13 : decode cX8_presses 13 = .ok (.invokestatic 52, 3) := by decide +kernel
theorem dX8_presses_16 : decode cX8_presses 16 = .ok (.ifCond .ne 10, 3) := by decide +kernel
theorem dX8_presses_19 : decode cX8_presses 19 = .ok (.aload_n 0, 1) := by decide +kernel
theorem dX8_presses_20 : decode cX8_presses 20 = .ok (.bipush (-2), 2) := by decide +kernel
theorem dX8_presses_22 : decode cX8_presses 22 = .ok (.invokevirtual 56, 3) := by decide +kernel
theorem dX8_presses_25 : decode cX8_presses 25 = .ok (.ireturn, 1) := by decide +kernel
theorem dX8_presses_26 : decode cX8_presses 26 = .ok (.iconst (-1), 1) := by decide +kernel
theorem dX8_presses_27 : decode cX8_presses 27 = .ok (.istore_n 3, 1) := by decide +kernel
theorem dX8_presses_28 : decode cX8_presses 28 = .ok (.iconst 0, 1) := by decide +kernel
theorem dX8_presses_29 : decode cX8_presses 29 = .ok (.istore 4, 2) := by decide +kernel
theorem dX8_presses_31 : decode cX8_presses 31 = .ok (.iconst 0, 1) := by decide +kernel
theorem dX8_presses_32 : decode cX8_presses 32 = .ok (.istore 5, 2) := by decide +kernel
theorem dX8_presses_34 : decode cX8_presses 34 = .ok (.iload 5, 2) := by decide +kernel
theorem dX8_presses_36 : decode cX8_presses 36 = .ok (.aload_n 0, 1) := by decide +kernel
theorem dX8_presses_37 : decode cX8_presses 37 = .ok (.getfield 10, 3) := by decide +kernel
theorem dX8_presses_40 : decode cX8_presses 40 = .ok (.getfield 46, 3) := by decide +kernel
theorem dX8_presses_43 : decode cX8_presses 43 = .ok (.if_icmp .ge 40, 3) := by decide +kernel
theorem dX8_presses_46 : decode cX8_presses 46 = .ok (.aload_n 0, 1) := by decide +kernel
theorem dX8_presses_47 : decode cX8_presses 47 = .ok (.getfield 10, 3) := by decide +kernel
theorem dX8_presses_50 : decode cX8_presses 50 = .ok (.iload 5, 2) := by decide +kernel
theorem dX8_presses_52 : decode cX8_presses 52 = .ok (.iload_n 1, 1) := by decide +kernel
theorem dX8_presses_53 : decode cX8_presses 53 = .ok (.invokevirtual 200, 3) := by decide +kernel
theorem dX8_presses_56 : decode cX8_presses 56 = .ok (.istore 6, 2) := by decide +kernel
theorem dX8_presses_58 : decode cX8_presses 58 = .ok (.iload_n 3, 1) := by decide +kernel
theorem dX8_presses_59 : decode cX8_presses 59 = .ok (.iconst (-1), 1) := by decide +kernel
theorem dX8_presses_60 : decode cX8_presses 60 = .ok (.if_icmp .eq 10, 3) := by decide +kernel
theorem dX8_presses_63 : decode cX8_presses 63 = .ok (.iload 6, 2) := by decide +kernel
theorem dX8_presses_65 : decode cX8_presses 65 = .ok (.iload 4, 2) := by decide +kernel
theorem dX8_presses_67 : decode cX8_presses 67 = .ok (.if_icmp .le 10, 3) := by decide +kernel
theorem dX8_presses_70 : decode cX8_presses 70 = .ok (.iload 5, 2) := by decide +kernel
theorem dX8_presses_72 : decode cX8_presses 72 = .ok (.istore_n 3, 1) := by decide +kernel
theorem dX8_presses_73 : decode cX8_presses 73 = .ok (.iload 6, 2) := by decide +kernel
theorem dX8_presses_75 : decode cX8_presses 75 = .ok (.istore 4, 2) := by decide +kernel
theorem dX8_presses_77 : decode cX8_presses 77 = .ok (.iinc 5 1, 3) := by decide +kernel
theorem dX8_presses_80 : decode cX8_presses 80 = .ok (.goto (-46), 3) := by decide +kernel
theorem dX8_presses_83 : decode cX8_presses 83 = .ok (.iload_n 2, 1) := by decide +kernel
theorem dX8_presses_84 : decode cX8_presses 84 = .ok (.ifCond .ne 7, 3) := by decide +kernel
theorem dX8_presses_87 : decode cX8_presses 87 = .ok (.iload_n 3, 1) := by decide +kernel
theorem dX8_presses_88 : decode cX8_presses 88 = .ok (.goto 5, 3) := by decide +kernel
theorem dX8_presses_91 : decode cX8_presses 91 = .ok (.iload 4, 2) := by decide +kernel
theorem dX8_presses_93 : decode cX8_presses 93 = .ok (.ireturn, 1) := by decide +kernel
theorem dX8_forged_0 : decode cX8_forged 0 = .ok (.iconst 0, 1) := by decide +kernel
theorem dX8_forged_1 : decode cX8_forged 1 = .ok (.istore_n 1, 1) := by decide +kernel
theorem dX8_forged_2 : decode cX8_forged 2 = .ok (.iconst 0, 1) := by decide +kernel
theorem dX8_forged_3 : decode cX8_forged 3 = .ok (.istore_n 2, 1) := by decide +kernel
theorem dX8_forged_4 : decode cX8_forged 4 = .ok (.iload_n 2, 1) := by decide +kernel
theorem dX8_forged_5 : decode cX8_forged 5 = .ok (.aload_n 0, 1) := by decide +kernel
theorem dX8_forged_6 : decode cX8_forged 6 = .ok (.getfield 10, 3) := by decide +kernel
theorem dX8_forged_9 : decode cX8_forged 9 = .ok (.getfield 203, 3) := by decide +kernel
theorem dX8_forged_12 : decode cX8_forged 12 = .ok (.if_icmp .ge 26, 3) := by decide +kernel
theorem dX8_forged_15 : decode cX8_forged 15 = .ok (.aload_n 0, 1) := by decide +kernel
theorem dX8_forged_16 : decode cX8_forged 16 = .ok (.getfield 10, 3) := by decide +kernel
theorem dX8_forged_19 : decode cX8_forged 19 = .ok (.iload_n 2, 1) := by decide +kernel
theorem dX8_forged_20 : decode cX8_forged 20 = .ok (.invokevirtual 210, 3) := by decide +kernel
theorem dX8_forged_23 : decode cX8_forged 23 = .ok (.ifCond .eq 9, 3) := by decide +kernel
theorem dX8_forged_26 : decode cX8_forged 26 = .ok (.iload_n 1, 1) := by decide +kernel
theorem dX8_forged_27 : decode cX8_forged 27 = .ok (.iconst 1, 1) := by decide +kernel
theorem dX8_forged_28 : decode cX8_forged 28 = .ok (.iload_n 2, 1) := by decide +kernel
theorem dX8_forged_29 : decode cX8_forged 29 = .ok (.ishl, 1) := by decide +kernel
theorem dX8_forged_30 : decode cX8_forged 30 = .ok (.ior, 1) := by decide +kernel
theorem dX8_forged_31 : decode cX8_forged 31 = .ok (.istore_n 1, 1) := by decide +kernel
theorem dX8_forged_32 : decode cX8_forged 32 = .ok (.iinc 2 1, 3) := by decide +kernel
theorem dX8_forged_35 : decode cX8_forged 35 = .ok (.goto (-31), 3) := by decide +kernel
theorem dX8_forged_38 : decode cX8_forged 38 = .ok (.iload_n 1, 1) := by decide +kernel
theorem dX8_forged_39 : decode cX8_forged 39 = .ok (.ireturn, 1) := by decide +kernel
theorem dX8_whose_0 : decode cX8_whose 0 = .ok (.aload_n 0, 1) := by decide +kernel
theorem dX8_whose_1 : decode cX8_whose 1 = .ok (.iload_n 1, 1) := by decide +kernel
theorem dX8_whose_2 : decode cX8_whose 2 = .ok (.iload_n 3, 1) := by decide +kernel
theorem dX8_whose_3 : decode cX8_whose 3 = .ok (.iload 4, 2) := by decide +kernel
theorem dX8_whose_5 : decode cX8_whose 5 = .ok (.iload 5, 2) := by decide +kernel
theorem dX8_whose_7 : decode cX8_whose 7 = .ok (.iload 6, 2) := by decide +kernel
theorem dX8_whose_9 : decode cX8_whose 9 = .ok (.invokevirtual 152, 3) := by decide +kernel
theorem dX8_whose_12 : decode cX8_whose 12 = .ok (.ifCond .eq 13, 3) := by decide +kernel
theorem dX8_whose_15 : decode cX8_whose 15 = .ok (.iload_n 2, 1) := by decide +kernel
theorem dX8_whose_16 : decode cX8_whose 16 = .ok (.iconst 0, 1) := by decide +kernel
theorem dX8_whose_17 : decode cX8_whose 17 = .ok (.bipush 20, 2) := by decide +kernel
theorem dX8_whose_19 : decode cX8_whose 19 = .ok (.invokestatic 52, 3) := by decide +kernel
theorem dX8_whose_22 : decode cX8_whose 22 = .ok (.ifCond .ne 10, 3) := by decide +kernel
theorem dX8_whose_25 : decode cX8_whose 25 = .ok (.aload_n 0, 1) := by decide +kernel
theorem dX8_whose_26 : decode cX8_whose 26 = .ok (.bipush (-2), 2) := by decide +kernel
theorem dX8_whose_28 : decode cX8_whose 28 = .ok (.invokevirtual 56, 3) := by decide +kernel
theorem dX8_whose_31 : decode cX8_whose 31 = .ok (.ireturn, 1) := by decide +kernel
theorem dX8_whose_32 : decode cX8_whose 32 = .ok (.iload 5, 2) := by decide +kernel
theorem dX8_whose_34 : decode cX8_whose 34 = .ok (.iload 6, 2) := by decide +kernel
theorem dX8_whose_36 : decode cX8_whose 36 = .ok (.invokestatic 156, 3) := by decide +kernel
theorem dX8_whose_39 : decode cX8_whose 39 = .ok (.istore 7, 2) := by decide +kernel
theorem dX8_whose_41 : decode cX8_whose 41 = .ok (.aload_n 0, 1) := by decide +kernel
theorem dX8_whose_42 : decode cX8_whose 42 = .ok (.getfield 10, 3) := by decide +kernel
theorem dX8_whose_45 : decode cX8_whose 45 = .ok (.iload_n 1, 1) := by decide +kernel
theorem dX8_whose_46 : decode cX8_whose 46 = .ok (.invokevirtual 145, 3) := by decide +kernel
theorem dX8_whose_49 : decode cX8_whose 49 = .ok (.iconst 0, 1) := by decide +kernel
theorem dX8_whose_50 : decode cX8_whose 50 = .ok (.istore 8, 2) := by decide +kernel
theorem dX8_whose_52 : decode cX8_whose 52 = .ok (.iconst 0, 1) := by decide +kernel
theorem dX8_whose_53 : decode cX8_whose 53 = .ok (.istore 9, 2) := by decide +kernel
theorem dX8_whose_55 : decode cX8_whose 55 = .ok (.iload 9, 2) := by decide +kernel
theorem dX8_whose_57 : decode cX8_whose 57 = .ok (.aload_n 0, 1) := by decide +kernel
theorem dX8_whose_58 : decode cX8_whose 58 = .ok (.getfield 10, 3) := by decide +kernel
theorem dX8_whose_61 : decode cX8_whose 61 = .ok (.getfield 46, 3) := by decide +kernel
theorem dX8_whose_64 : decode cX8_whose 64 = .ok (.if_icmp .ge 49, 3) := by decide +kernel
theorem dX8_whose_67 : decode cX8_whose 67 = .ok (.aload_n 0, 1) := by decide +kernel
theorem dX8_whose_68 : decode cX8_whose 68 = .ok (.getfield 10, 3) := by decide +kernel
theorem dX8_whose_71 : decode cX8_whose 71 = .ok (.getfield 148, 3) := by decide +kernel
theorem dX8_whose_74 : decode cX8_whose 74 = .ok (.iload 9, 2) := by decide +kernel
theorem dX8_whose_76 : decode cX8_whose 76 = .ok (.iaload, 1) := by decide +kernel
theorem dX8_whose_77 : decode cX8_whose 77 = .ok (.iload_n 2, 1) := by decide +kernel
theorem dX8_whose_78 : decode cX8_whose 78 = .ok (.if_icmp .gt 29, 3) := by decide +kernel
theorem dX8_whose_81 : decode cX8_whose 81 = .ok (.aload_n 0, 1) := by decide +kernel
theorem dX8_whose_82 : decode cX8_whose 82 = .ok (.getfield 10, 3) := by decide +kernel
theorem dX8_whose_85 : decode cX8_whose 85 = .ok (.iload 9, 2) := by decide +kernel
theorem dX8_whose_87 : decode cX8_whose 87 = .ok (.iload_n 3, 1) := by decide +kernel
theorem dX8_whose_88 : decode cX8_whose 88 = .ok (.iload 4, 2) := by decide +kernel
theorem dX8_whose_90 : decode cX8_whose 90 = .ok (.iload 7, 2) := by decide +kernel
theorem dX8_whose_92 : decode cX8_whose 92 = .ok (.invokevirtual 163, 3) := by decide +kernel
theorem dX8_whose_95 : decode cX8_whose 95 = .ok (.ifCond .ne 12, 3) := by decide +kernel
theorem dX8_whose_98 : decode cX8_whose 98 = .ok (.iload 8, 2) := by decide +kernel
theorem dX8_whose_100 : decode cX8_whose 100 = .ok (.iconst 1, 1) := by decide +kernel
theorem dX8_whose_101 : decode cX8_whose 101 = .ok (.iload 9, 2) := by decide +kernel
theorem dX8_whose_103 : decode cX8_whose 103 = .ok (.ishl, 1) := by decide +kernel
theorem dX8_whose_104 : decode cX8_whose 104 = .ok (.ior, 1) := by decide +kernel
theorem dX8_whose_105 : decode cX8_whose 105 = .ok (.istore 8, 2) := by decide +kernel
theorem dX8_whose_107 : decode cX8_whose 107 = .ok (.iinc 9 1, 3) := by decide +kernel
theorem dX8_whose_110 : decode cX8_whose 110 = .ok (.goto (-55), 3) := by decide +kernel
theorem dX8_whose_113 : decode cX8_whose 113 = .ok (.iload 8, 2) := by decide +kernel
theorem dX8_whose_115 : decode cX8_whose 115 = .ok (.ireturn, 1) := by decide +kernel
theorem dX8_odds_0 : decode cX8_odds 0 = .ok (.aload_n 0, 1) := by decide +kernel
theorem dX8_odds_1 : decode cX8_odds 1 = .ok (.iload_n 1, 1) := by decide +kernel
theorem dX8_odds_2 : decode cX8_odds 2 = .ok (.iload_n 2, 1) := by decide +kernel
theorem dX8_odds_3 : decode cX8_odds 3 = .ok (.iload_n 3, 1) := by decide +kernel
theorem dX8_odds_4 : decode cX8_odds 4 = .ok (.iload 5, 2) := by decide +kernel
theorem dX8_odds_6 : decode cX8_odds 6 = .ok (.iload 6, 2) := by decide +kernel
theorem dX8_odds_8 : decode cX8_odds 8 = .ok (.invokevirtual 152, 3) := by decide +kernel
theorem dX8_odds_11 : decode cX8_odds 11 = .ok (.ifCond .eq 14, 3) := by decide +kernel
theorem dX8_odds_14 : decode cX8_odds 14 = .ok (.iload 4, 2) := by decide +kernel
theorem dX8_odds_16 : decode cX8_odds 16 = .ok (.iload_n 3, 1) := by decide +kernel
theorem dX8_odds_17 : decode cX8_odds 17 = .ok (.bipush 59, 2) := by decide +kernel
theorem dX8_odds_19 : decode cX8_odds 19 = .ok (.invokestatic 52, 3) := by decide +kernel
theorem dX8_odds_22 : decode cX8_odds 22 = .ok (.ifCond .ne 10, 3) := by decide +kernel
theorem dX8_odds_25 : decode cX8_odds 25 = .ok (.aload_n 0, 1) := by decide +kernel
theorem dX8_odds_26 : decode cX8_odds 26 = .ok (.bipush (-2), 2) := by decide +kernel
theorem dX8_odds_28 : decode cX8_odds 28 = .ok (.invokevirtual 56, 3) := by decide +kernel
theorem dX8_odds_31 : decode cX8_odds 31 = .ok (.ireturn, 1) := by decide +kernel
theorem dX8_odds_32 : decode cX8_odds 32 = .ok (.iload 5, 2) := by decide +kernel
theorem dX8_odds_34 : decode cX8_odds 34 = .ok (.iload 6, 2) := by decide +kernel
theorem dX8_odds_36 : decode cX8_odds 36 = .ok (.invokestatic 156, 3) := by decide +kernel
theorem dX8_odds_39 : decode cX8_odds 39 = .ok (.istore 7, 2) := by decide +kernel
theorem dX8_odds_41 : decode cX8_odds 41 = .ok (.iconst 0, 1) := by decide +kernel
theorem dX8_odds_42 : decode cX8_odds 42 = .ok (.istore 8, 2) := by decide +kernel
theorem dX8_odds_44 : decode cX8_odds 44 = .ok (.iload_n 3, 1) := by decide +kernel
theorem dX8_odds_45 : decode cX8_odds 45 = .ok (.istore 9, 2) := by decide +kernel
theorem dX8_odds_47 : decode cX8_odds 47 = .ok (.iload 9, 2) := by decide +kernel
theorem dX8_odds_49 : decode cX8_odds 49 = .ok (.iload 4, 2) := by decide +kernel
theorem dX8_odds_51 : decode cX8_odds 51 = .ok (.if_icmp .gt 28, 3) := by decide +kernel
theorem dX8_odds_54 : decode cX8_odds 54 = .ok (.aload_n 0, 1) := by decide +kernel
theorem dX8_odds_55 : decode cX8_odds 55 = .ok (.getfield 10, 3) := by decide +kernel
theorem dX8_odds_58 : decode cX8_odds 58 = .ok (.iload_n 1, 1) := by decide +kernel
theorem dX8_odds_59 : decode cX8_odds 59 = .ok (.iload_n 2, 1) := by decide +kernel
theorem dX8_odds_60 : decode cX8_odds 60 = .ok (.iload 9, 2) := by decide +kernel
theorem dX8_odds_62 : decode cX8_odds 62 = .ok (.iload 7, 2) := by decide +kernel
theorem dX8_odds_64 : decode cX8_odds 64 = .ok (.invokevirtual 163, 3) := by decide +kernel
theorem dX8_odds_67 : decode cX8_odds 67 = .ok (.ifCond .eq 6, 3) := by decide +kernel
theorem dX8_odds_70 : decode cX8_odds 70 = .ok (.iinc 8 1, 3) := by decide +kernel
theorem dX8_odds_73 : decode cX8_odds 73 = .ok (.iinc 9 1, 3) := by decide +kernel
theorem dX8_odds_76 : decode cX8_odds 76 = .ok (.goto (-29), 3) := by decide +kernel
theorem dX8_odds_79 : decode cX8_odds 79 = .ok (.iload 4, 2) := by decide +kernel
theorem dX8_odds_81 : decode cX8_odds 81 = .ok (.iload_n 3, 1) := by decide +kernel
theorem dX8_odds_82 : decode cX8_odds 82 = .ok (.isub, 1) := by decide +kernel
theorem dX8_odds_83 : decode cX8_odds 83 = .ok (.iconst 1, 1) := by decide +kernel
theorem dX8_odds_84 : decode cX8_odds 84 = .ok (.iadd, 1) := by decide +kernel
theorem dX8_odds_85 : decode cX8_odds 85 = .ok (.istore 9, 2) := by decide +kernel
theorem dX8_odds_87 : decode cX8_odds 87 = .ok (.iload 8, 2) := by decide +kernel
theorem dX8_odds_89 : decode cX8_odds 89 = .ok (.iload 9, 2) := by decide +kernel
theorem dX8_odds_91 : decode cX8_odds 91 = .ok (.invokestatic 213, 3) := by decide +kernel
theorem dX8_odds_94 : decode cX8_odds 94 = .ok (.istore 10, 2) := by decide +kernel
theorem dX8_odds_96 : decode cX8_odds 96 = .ok (.aload_n 0, 1) := by decide +kernel
theorem dX8_odds_97 : decode cX8_odds 97 = .ok (.iload 8, 2) := by decide +kernel
theorem dX8_odds_99 : decode cX8_odds 99 = .ok (.iload 10, 2) := by decide +kernel
theorem dX8_odds_101 : decode cX8_odds 101 = .ok (.idiv, 1) := by decide +kernel
theorem dX8_odds_102 : decode cX8_odds 102 = .ok (.putfield 31, 3) := by decide +kernel
theorem dX8_odds_105 : decode cX8_odds 105 = .ok (.aload_n 0, 1) := by decide +kernel
theorem dX8_odds_106 : decode cX8_odds 106 = .ok (.iload 9, 2) := by decide +kernel
theorem dX8_odds_108 : decode cX8_odds 108 = .ok (.iload 10, 2) := by decide +kernel
theorem dX8_odds_110 : decode cX8_odds 110 = .ok (.idiv, 1) := by decide +kernel
theorem dX8_odds_111 : decode cX8_odds 111 = .ok (.putfield 34, 3) := by decide +kernel
theorem dX8_odds_114 : decode cX8_odds 114 = .ok (.iconst 1, 1) := by decide +kernel
theorem dX8_odds_115 : decode cX8_odds 115 = .ok (.ireturn, 1) := by decide +kernel
theorem dX8_drawn_0 : decode cX8_drawn 0 = .ok (.iload_n 1, 1) := by decide +kernel
theorem dX8_drawn_1 : decode cX8_drawn 1 = .ok (.iconst 0, 1) := by decide +kernel
theorem dX8_drawn_2 : decode cX8_drawn 2 = .ok (.ldc 216, 2) := by decide +kernel
theorem dX8_drawn_4 : decode cX8_drawn 4 = .ok (.invokestatic 52, 3) := by decide +kernel
theorem dX8_drawn_7 : decode cX8_drawn 7 = .ok (.ifCond .eq 13, 3) := by decide +kernel
theorem dX8_drawn_10 : decode cX8_drawn 10 = .ok (.iload_n 2, 1) := by decide +kernel
theorem dX8_drawn_11 : decode cX8_drawn 11 = .ok (.iconst 0, 1) := by decide +kernel
theorem dX8_drawn_12 : decode cX8_drawn 12 = .ok (.bipush 60, 2) := by decide +kernel
theorem dX8_drawn_14 : decode cX8_drawn 14 = .ok (.invokestatic 52, 3) := by decide +kernel
theorem dX8_drawn_17 : decode cX8_drawn 17 = .ok (.ifCond .ne 10, 3) := by decide +kernel
theorem dX8_drawn_20 : decode cX8_drawn 20 = .ok (.aload_n 0, 1) := by decide +kernel
theorem dX8_drawn_21 : decode cX8_drawn 21 = .ok (.bipush (-2), 2) := by decide +kernel
theorem dX8_drawn_23 : decode cX8_drawn 23 = .ok (.invokevirtual 56, 3) := by decide +kernel
theorem dX8_drawn_26 : decode cX8_drawn 26 = .ok (.ireturn, 1) := by decide +kernel
theorem dX8_drawn_27 : decode cX8_drawn 27 = .ok (.aload_n 0, 1) := by decide +kernel
theorem dX8_drawn_28 : decode cX8_drawn 28 = .ok (.getfield 10, 3) := by decide +kernel
theorem dX8_drawn_31 : decode cX8_drawn 31 = .ok (.getfield 46, 3) := by decide +kernel
theorem dX8_drawn_34 : decode cX8_drawn 34 = .ok (.ifCond .gt 5, 3) := by decide +kernel
theorem dX8_drawn_37 : decode cX8_drawn 37 = .ok (.iconst (-1), 1) := by decide +kernel
theorem dX8_drawn_38 : decode cX8_drawn 38 = .ok (.ireturn, 1) := by decide +kernel
theorem dX8_drawn_39 : decode cX8_drawn 39 = .ok (.iload_n 1, 1) := by decide +kernel
theorem dX8_drawn_40 : decode cX8_drawn 40 = .ok (.i2l, 1) := by decide +kernel
theorem dX8_drawn_41 : decode cX8_drawn 41 = .ok (.lstore_n 3, 1) := by decide +kernel
theorem dX8_drawn_42 : decode cX8_drawn 42 = .ok (.iconst 0, 1) := by decide +kernel
theorem dX8_drawn_43 : decode cX8_drawn 43 = .ok (.istore 5, 2) := by decide +kernel
theorem dX8_drawn_45 : decode cX8_drawn 45 = .ok (.iconst 0, 1) := by decide +kernel
theorem dX8_drawn_46 : decode cX8_drawn 46 = .ok (.istore 6, 2) := by decide +kernel
theorem dX8_drawn_48 : decode cX8_drawn 48 = .ok (.iload 6, 2) := by decide +kernel
theorem dX8_drawn_50 : decode cX8_drawn 50 = .ok (.iload_n 2, 1) := by decide +kernel
theorem dX8_drawn_51 : decode cX8_drawn 51 = .ok (.if_icmp .ge 86, 3) := by decide +kernel
theorem dX8_drawn_54 : decode cX8_drawn 54 = .ok (.lload_n 3, 1) := by decide +kernel
theorem dX8_drawn_55 : decode cX8_drawn 55 = .ok (.invokestatic 217, 3) := by decide +kernel
theorem dX8_drawn_58 : decode cX8_drawn 58 = .ok (.lstore_n 3, 1) := by decide +kernel
theorem dX8_drawn_59 : decode cX8_drawn 59 = .ok (.lload_n 3, 1) := by decide +kernel
theorem dX8_drawn_60 : decode cX8_drawn 60 = .ok (.aload_n 0, 1) := by decide +kernel
theorem dX8_drawn_61 : decode cX8_drawn 61 = .ok (.getfield 10, 3) := by decide +kernel
theorem dX8_drawn_64 : decode cX8_drawn 64 = .ok (.getfield 46, 3) := by decide +kernel
theorem dX8_drawn_67 : decode cX8_drawn 67 = .ok (.invokestatic 221, 3) := by decide +kernel
theorem dX8_drawn_70 : decode cX8_drawn 70 = .ok (.istore 7, 2) := by decide +kernel
theorem dX8_drawn_72 : decode cX8_drawn 72 = .ok (.lload_n 3, 1) := by decide +kernel
theorem dX8_drawn_73 : decode cX8_drawn 73 = .ok (.invokestatic 217, 3) := by decide +kernel
theorem dX8_drawn_76 : decode cX8_drawn 76 = .ok (.lstore_n 3, 1) := by decide +kernel
theorem dX8_drawn_77 : decode cX8_drawn 77 = .ok (.lload_n 3, 1) := by decide +kernel
theorem dX8_drawn_78 : decode cX8_drawn 78 = .ok (.bipush 6, 2) := by decide +kernel
theorem dX8_drawn_80 : decode cX8_drawn 80 = .ok (.invokestatic 221, 3) := by decide +kernel
theorem dX8_drawn_83 : decode cX8_drawn 83 = .ok (.istore 8, 2) := by decide +kernel
theorem dX8_drawn_85 : decode cX8_drawn 85 = .ok (.lload_n 3, 1) := by decide +kernel
theorem dX8_drawn_86 : decode cX8_drawn 86 = .ok (.invokestatic 217, 3) := by decide +kernel
theorem dX8_drawn_89 : decode cX8_drawn 89 = .ok (.lstore_n 3, 1) := by decide +kernel
theorem dX8_drawn_90 : decode cX8_drawn 90 = .ok (.lload_n 3, 1) := by decide +kernel
theorem dX8_drawn_91 : decode cX8_drawn 91 = .ok (.bipush 60, 2) := by decide +kernel
theorem dX8_drawn_93 : decode cX8_drawn 93 = .ok (.invokestatic 221, 3) := by decide +kernel
theorem dX8_drawn_96 : decode cX8_drawn 96 = .ok (.istore 9, 2) := by decide +kernel
theorem dX8_drawn_98 : decode cX8_drawn 98 = .ok (.lload_n 3, 1) := by decide +kernel
theorem dX8_drawn_99 : decode cX8_drawn 99 = .ok (.invokestatic 217, 3) := by decide +kernel
theorem dX8_drawn_102 : decode cX8_drawn 102 = .ok (.lstore_n 3, 1) := by decide +kernel
theorem dX8_drawn_103 : decode cX8_drawn 103 = .ok (.lload_n 3, 1) := by decide +kernel
theorem dX8_drawn_104 : decode cX8_drawn 104 = .ok (.iconst 4, 1) := by decide +kernel
theorem dX8_drawn_105 : decode cX8_drawn 105 = .ok (.invokestatic 221, 3) := by decide +kernel
theorem dX8_drawn_108 : decode cX8_drawn 108 = .ok (.istore 10, 2) := by decide +kernel
theorem dX8_drawn_110 : decode cX8_drawn 110 = .ok (.aload_n 0, 1) := by decide +kernel
theorem dX8_drawn_111 : decode cX8_drawn 111 = .ok (.getfield 10, 3) := by decide +kernel
theorem dX8_drawn_114 : decode cX8_drawn 114 = .ok (.iload 7, 2) := by decide +kernel
theorem dX8_drawn_116 : decode cX8_drawn 116 = .ok (.iload 8, 2) := by decide +kernel
theorem dX8_drawn_118 : decode cX8_drawn 118 = .ok (.iload 9, 2) := by decide +kernel
theorem dX8_drawn_120 : decode cX8_drawn 120 = .ok (.iload 10, 2) := by decide +kernel
theorem dX8_drawn_122 : decode cX8_drawn 122 = .ok (.invokevirtual 163, 3) := by decide +kernel
theorem dX8_drawn_125 : decode cX8_drawn 125 = .ok (.ifCond .ne 6, 3) := by decide +kernel
theorem dX8_drawn_128 : decode cX8_drawn 128 = .ok (.iinc 5 1, 3) := by decide +kernel
theorem dX8_drawn_131 : decode cX8_drawn 131 = .ok (.iinc 6 1, 3) := by decide +kernel
theorem dX8_drawn_134 : decode cX8_drawn 134 = .ok (.goto (-86), 3) := by decide +kernel
theorem dX8_drawn_137 : decode cX8_drawn 137 = .ok (.iload 5, 2) := by decide +kernel
theorem dX8_drawn_139 : decode cX8_drawn 139 = .ok (.ireturn, 1) := by decide +kernel
theorem dX8_digest_0 : decode cX8_digest 0 = .ok (.ldc2_w 232, 3) := by decide +kernel
theorem dX8_digest_3 : decode cX8_digest 3 = .ok (.lstore_n 1, 1) := by decide +kernel
theorem dX8_digest_4 : decode cX8_digest 4 = .ok (.lload_n 1, 1) := by decide +kernel
theorem dX8_digest_5 : decode cX8_digest 5 = .ok (.aload_n 0, 1) := by decide +kernel
theorem dX8_digest_6 : decode cX8_digest 6 = .ok (.getfield 10, 3) := by decide +kernel
theorem dX8_digest_9 : decode cX8_digest 9 = .ok (.getfield 46, 3) := by decide +kernel
theorem dX8_digest_12 : decode cX8_digest 12 = .ok (.i2l, 1) := by decide +kernel
theorem dX8_digest_13 : decode cX8_digest 13 = .ok (.invokestatic 234, 3) := by decide +kernel
theorem dX8_digest_16 : decode cX8_digest 16 = .ok (.lstore_n 1, 1) := by decide +kernel
theorem dX8_digest_17 : decode cX8_digest 17 = .ok (.lload_n 1, 1) := by decide +kernel
theorem dX8_digest_18 : decode cX8_digest 18 = .ok (.aload_n 0, 1) := by decide +kernel
theorem dX8_digest_19 : decode cX8_digest 19 = .ok (.getfield 10, 3) := by decide +kernel
theorem dX8_digest_22 : decode cX8_digest 22 = .ok (.getfield 80, 3) := by decide +kernel
theorem dX8_digest_25 : decode cX8_digest 25 = .ok (.i2l, 1) := by decide +kernel
theorem dX8_digest_26 : decode cX8_digest 26 = .ok (.invokestatic 234, 3) := by decide +kernel
theorem dX8_digest_29 : decode cX8_digest 29 = .ok (.lstore_n 1, 1) := by decide +kernel
theorem dX8_digest_30 : decode cX8_digest 30 = .ok (.lload_n 1, 1) := by decide +kernel
theorem dX8_digest_31 : decode cX8_digest 31 = .ok (.aload_n 0, 1) := by decide +kernel
theorem dX8_digest_32 : decode cX8_digest 32 = .ok (.getfield 10, 3) := by decide +kernel
theorem dX8_digest_35 : decode cX8_digest 35 = .ok (.invokevirtual 229, 3) := by decide +kernel
theorem dX8_digest_38 : decode cX8_digest 38 = .ok (.i2l, 1) := by decide +kernel
theorem dX8_digest_39 : decode cX8_digest 39 = .ok (.invokestatic 234, 3) := by decide +kernel
theorem dX8_digest_42 : decode cX8_digest 42 = .ok (.lstore_n 1, 1) := by decide +kernel
theorem dX8_digest_43 : decode cX8_digest 43 = .ok (.lload_n 1, 1) := by decide +kernel
theorem dX8_digest_44 : decode cX8_digest 44 = .ok (.aload_n 0, 1) := by decide +kernel
theorem dX8_digest_45 : decode cX8_digest 45 = .ok (.getfield 10, 3) := by decide +kernel
theorem dX8_digest_48 : decode cX8_digest 48 = .ok (.getfield 203, 3) := by decide +kernel
theorem dX8_digest_51 : decode cX8_digest 51 = .ok (.i2l, 1) := by decide +kernel
theorem dX8_digest_52 : decode cX8_digest 52 = .ok (.invokestatic 234, 3) := by decide +kernel
theorem dX8_digest_55 : decode cX8_digest 55 = .ok (.lstore_n 1, 1) := by decide +kernel
theorem dX8_digest_56 : decode cX8_digest 56 = .ok (.lload_n 1, 1) := by decide +kernel
theorem dX8_digest_57 : decode cX8_digest 57 = .ok (.aload_n 0, 1) := by decide +kernel
theorem dX8_digest_58 : decode cX8_digest 58 = .ok (.getfield 10, 3) := by decide +kernel
theorem dX8_digest_61 : decode cX8_digest 61 = .ok (.getfield 97, 3) := by decide +kernel
theorem dX8_digest_64 : decode cX8_digest 64 = .ok (.i2l, 1) := by decide +kernel
theorem dX8_digest_65 : decode cX8_digest 65 = .ok (.invokestatic 234, 3) := by decide +kernel
theorem dX8_digest_68 : decode cX8_digest 68 = .ok (.lstore_n 1, 1) := by decide +kernel
theorem dX8_digest_69 : decode cX8_digest 69 = .ok (.lload_n 1, 1) := by decide +kernel
theorem dX8_digest_70 : decode cX8_digest 70 = .ok (.aload_n 0, 1) := by decide +kernel
theorem dX8_digest_71 : decode cX8_digest 71 = .ok (.getfield 27, 3) := by decide +kernel
theorem dX8_digest_74 : decode cX8_digest 74 = .ok (.i2l, 1) := by decide +kernel
theorem dX8_digest_75 : decode cX8_digest 75 = .ok (.invokestatic 234, 3) := by decide +kernel
theorem dX8_digest_78 : decode cX8_digest 78 = .ok (.lstore_n 1, 1) := by decide +kernel
theorem dX8_digest_79 : decode cX8_digest 79 = .ok (.aload_n 0, 1) := by decide +kernel
theorem dX8_digest_80 : decode cX8_digest 80 = .ok (.getfield 10, 3) := by decide +kernel
theorem dX8_digest_83 : decode cX8_digest 83 = .ok (.lload_n 1, 1) := by decide +kernel
theorem dX8_digest_84 : decode cX8_digest 84 = .ok (.invokevirtual 238, 3) := by decide +kernel
theorem dX8_digest_87 : decode cX8_digest 87 = .ok (.lstore_n 1, 1) := by decide +kernel
theorem dX8_digest_88 : decode cX8_digest 88 = .ok (.lload_n 1, 1) := by decide +kernel
theorem dX8_digest_89 : decode cX8_digest 89 = .ok (.aload_n 0, 1) := by decide +kernel
theorem dX8_digest_90 : decode cX8_digest 90 = .ok (.getfield 31, 3) := by decide +kernel
theorem dX8_digest_93 : decode cX8_digest 93 = .ok (.i2l, 1) := by decide +kernel
theorem dX8_digest_94 : decode cX8_digest 94 = .ok (.invokestatic 234, 3) := by decide +kernel
theorem dX8_digest_97 : decode cX8_digest 97 = .ok (.lstore_n 1, 1) := by decide +kernel
theorem dX8_digest_98 : decode cX8_digest 98 = .ok (.lload_n 1, 1) := by decide +kernel
theorem dX8_digest_99 : decode cX8_digest 99 = .ok (.aload_n 0, 1) := by decide +kernel
theorem dX8_digest_100 : decode cX8_digest 100 = .ok (.getfield 34, 3) := by decide +kernel
theorem dX8_digest_103 : decode cX8_digest 103 = .ok (.i2l, 1) := by decide +kernel
theorem dX8_digest_104 : decode cX8_digest 104 = .ok (.invokestatic 234, 3) := by decide +kernel
theorem dX8_digest_107 : decode cX8_digest 107 = .ok (.lreturn, 1) := by decide +kernel
theorem kX4_clauseAt : zCV yX4_clauseAt RX4 cX4_clauseAt 2 (some (.object "BanLand$Ban")) 1 := ⟨q2_198, q2_199, q1_2, q2_200, rfl, by decide +kernel, by decide +kernel, by decide +kernel⟩
theorem kX8_of : zCV yX8_of RX8 cX8_of 4 (some .int) 2 := ⟨q2_194, q2_195, q1_1, q2_196, rfl, by decide +kernel, by decide +kernel, by decide +kernel⟩
theorem kX8_far : zCV yX8_far RX8 cX8_far 4 (some .int) 2 := ⟨q2_226, q2_227, q1_1, q2_228, rfl, by decide +kernel, by decide +kernel, by decide +kernel⟩
theorem kX8_allowed : zCV yX8_allowed RX8 cX8_allowed 8 (some .int) 6 := ⟨q2_239, q3_0, q1_1, q3_1, rfl, by decide +kernel, by decide +kernel, by decide +kernel⟩
theorem kX8_nearest : zCV yX8_nearest RX8 cX8_nearest 10 (some .int) 6 := ⟨q3_73, q3_74, q1_1, q3_75, rfl, by decide +kernel, by decide +kernel, by decide +kernel⟩
theorem kX8_contradict : zCV yX8_contradict RX8 cX8_contradict 8 (some .int) 3 := ⟨q3_82, q3_83, q1_1, q3_84, rfl, by decide +kernel, by decide +kernel, by decide +kernel⟩
theorem kX8_settle : zCV yX8_settle RX8 cX8_settle 7 (some .int) 2 := ⟨q3_86, q3_87, q1_1, q3_88, rfl, by decide +kernel, by decide +kernel, by decide +kernel⟩
theorem kX8_reads : zCV yX8_reads RX8 cX8_reads 10 (some .int) 5 := ⟨q3_103, q3_104, q1_1, q3_105, rfl, by decide +kernel, by decide +kernel, by decide +kernel⟩
theorem kX8_firstDay : zCV yX8_firstDay RX8 cX8_firstDay 9 (some .int) 4 := ⟨q3_117, qp14, q1_1, q3_118, rfl, by decide +kernel, by decide +kernel, by decide +kernel⟩
theorem kX8_whoGivesIn : zCV yX8_whoGivesIn RX8 cX8_whoGivesIn 9 (some .int) 4 := ⟨q3_129, qp16, q1_1, q3_130, rfl, by decide +kernel, by decide +kernel, by decide +kernel⟩
theorem kX8_patience : zCV yX8_patience RX8 cX8_patience 6 (some .int) 4 := ⟨q3_109, q3_110, q1_1, q3_111, rfl, by decide +kernel, by decide +kernel, by decide +kernel⟩
theorem kX8_concede : zCV yX8_concede RX8 cX8_concede 5 (some .int) 4 := ⟨q3_132, q3_133, q1_1, q3_134, rfl, by decide +kernel, by decide +kernel, by decide +kernel⟩
theorem kX8_presses : zCV yX8_presses RX8 cX8_presses 7 (some .int) 2 := ⟨q3_136, q3_137, q1_1, q3_138, rfl, by decide +kernel, by decide +kernel, by decide +kernel⟩
theorem kX8_forged : zCV yX8_forged RX8 cX8_forged 3 (some .int) 0 := ⟨q3_156, q3_157, q1_1, q3_158, rfl, by decide +kernel, by decide +kernel, by decide +kernel⟩
theorem kX8_whose : zCV yX8_whose RX8 cX8_whose 10 (some .int) 6 := ⟨q3_165, q3_166, q1_1, q3_167, rfl, by decide +kernel, by decide +kernel, by decide +kernel⟩
theorem kX8_odds : zCV yX8_odds RX8 cX8_odds 11 (some .int) 6 := ⟨q3_169, q3_170, q1_1, q3_171, rfl, by decide +kernel, by decide +kernel, by decide +kernel⟩
theorem kX8_drawn : zCV yX8_drawn RX8 cX8_drawn 11 (some .int) 2 := ⟨q3_176, q3_177, q1_1, q3_178, rfl, by decide +kernel, by decide +kernel, by decide +kernel⟩
theorem kX8_digest : zCV yX8_digest RX8 cX8_digest 3 (some .long) 0 := ⟨q3_219, q3_220, q1_1, q3_221, rfl, by decide +kernel, by decide +kernel, by decide +kernel⟩
set_option maxHeartbeats 4000000 in
set_option maxRecDepth 100000 in
theorem c_X4_clauseAt_y (l : Launch) (g : zG) (b : Nat) (a : Nat → Nat) (T : Nat) (C : Nat) (U : Nat) (V : Nat) (rd : Nat → Int32) (ro : Nat → Int32) (lw : Nat → Option Nat) (pl : Nat → Option Nat) (pc : Nat → Int32) (gv : Nat → Int32) (aw : Nat → Int32) (nt : Nat → Int32) (i : Nat) (q : Nat) (X : va_W) (hi : i < C) (hC8 : C ≤ 8) (hq : lw i = some q) : Met l yX4_clauseAt (Cond.code yX4_clauseAt cX4_clauseAt 2 (some (.object "BanLand$Ban")) :: TBL) { frames := 0, cells := 0, slots := 0, locals := 0 } (zPc [.ref b, .int (nI i)] g (lW g b a (nI T) (nI C) (nI U) (nI V) rd ro lw pl pc gv aw nt ++ X)) (zQq g (fun r ws => r = some q ∧ ws = lW g b a (nI T) (nI C) (nI U) (nI V) rd ro lw pl pc gv aw nt ++ X)) 0 0 (zA (gz g)) := by
  refine z_start (by decide +kernel) rfl (Nat.le_of_ble_eq_true rfl) ?_
  intro p e s m args below meth c ls hE hr hnm hB hl
  have hl : lv_has ls 2 [(0, .ref b), (1, .int (nI i))] := hl
  revert hB
  generalize s.heap = H
  generalize ([] : List Loc) = locs
  intro hB
  refine lv_iload_n hE.x hE.b dX4_clauseAt_0 rfl (lv_at hl 1 rfl) ?_
  refine z_lt0 (tgt := 21) (X := ((i : Nat) : Int)) hE dX4_clauseAt_1 (by decide) (nI_toInt (n := i) (by omega)) (fun c_1 => ?_) (fun c_1 => ?_)
  · · exact absurd c_1 (by omega)
  · refine lv_iload_n hE.x hE.b dX4_clauseAt_4 rfl (lv_at hl 1 rfl) ?_
    refine lv_aload_n hE.x hE.b dX4_clauseAt_5 rfl (lv_at hl 0 rfl) ?_
    refine z_get (v := .int (nI C)) hE hB inX4 0 rfl rfl 1 (by decide) q1_36 (fun _ h9 => h9) rfl dX4_clauseAt_6 ?_
    refine z_ge (tgt := 21) (X := ((i : Nat) : Int)) (Y := ((C : Nat) : Int)) hE dX4_clauseAt_9 (by decide) (nI_toInt (n := i) (by omega)) (nI_toInt (n := C) (by omega)) (fun c_2 => ?_) (fun c_2 => ?_)
    · · exact absurd c_2 (by omega)
    · refine lv_aload_n hE.x hE.b dX4_clauseAt_12 rfl (lv_at hl 0 rfl) ?_
      refine z_get (v := .ref (a 2)) hE hB inX4 0 rfl rfl 6 (by decide) q1_45 (fun _ h9 => h9) rfl dX4_clauseAt_13 ?_
      refine lv_iload_n hE.x hE.b dX4_clauseAt_16 rfl (lv_at hl 1 rfl) ?_
      refine z_nald (k := i) (f := lw) hE hB 3 rfl (by omega) (by decide) dX4_clauseAt_17 ?_
      refine z_topv (show va_rf (lw i) = Value.ref q by rw [hq]; rfl) ?_
      refine lv_goto (tgt := 22) hE.x hE.b dX4_clauseAt_18 (by decide) ?_
      exact z_qret (v := (some q)) (ws := lW g b a (nI T) (nI C) (nI U) (nI V) rd ro lw pl pc gv aw nt ++ X) hE hB hr (Or.inl ⟨_, rfl⟩) (⟨rfl, rfl⟩) dX4_clauseAt_22

set_option maxHeartbeats 4000000 in
set_option maxRecDepth 100000 in
theorem c_X4_clauseAt_n (l : Launch) (g : zG) (b : Nat) (a : Nat → Nat) (T : Nat) (C : Nat) (U : Nat) (V : Nat) (rd : Nat → Int32) (ro : Nat → Int32) (lw : Nat → Option Nat) (pl : Nat → Option Nat) (pc : Nat → Int32) (gv : Nat → Int32) (aw : Nat → Int32) (nt : Nat → Int32) (x : Int32) (X : va_W) (hC8 : C ≤ 8) (hx : pTown C x = false) : Met l yX4_clauseAt (Cond.code yX4_clauseAt cX4_clauseAt 2 (some (.object "BanLand$Ban")) :: TBL) { frames := 0, cells := 0, slots := 0, locals := 0 } (zPc [.ref b, .int x] g (lW g b a (nI T) (nI C) (nI U) (nI V) rd ro lw pl pc gv aw nt ++ X)) (zQq g (fun r ws => r = none ∧ ws = lW g b a (nI T) (nI C) (nI U) (nI V) rd ro lw pl pc gv aw nt ++ X)) 0 0 (zA (gz g)) := by
  refine z_start (by decide +kernel) rfl (Nat.le_of_ble_eq_true rfl) ?_
  intro p e s m args below meth c ls hE hr hnm hB hl
  have hl : lv_has ls 2 [(0, .ref b), (1, .int x)] := hl
  revert hB
  generalize s.heap = H
  generalize ([] : List Loc) = locs
  intro hB
  refine lv_iload_n hE.x hE.b dX4_clauseAt_0 rfl (lv_at hl 1 rfl) ?_
  refine z_lt0 (tgt := 21) (X := x.toInt) hE dX4_clauseAt_1 (by decide) rfl (fun c_1 => ?_) (fun c_1 => ?_)
  · refine lv_null hE.x hE.b dX4_clauseAt_21 ?_
    exact z_qret (v := none) (ws := lW g b a (nI T) (nI C) (nI U) (nI V) rd ro lw pl pc gv aw nt ++ X) hE hB hr (Or.inl ⟨_, rfl⟩) (⟨rfl, rfl⟩) dX4_clauseAt_22
  · refine lv_iload_n hE.x hE.b dX4_clauseAt_4 rfl (lv_at hl 1 rfl) ?_
    refine lv_aload_n hE.x hE.b dX4_clauseAt_5 rfl (lv_at hl 0 rfl) ?_
    refine z_get (v := .int (nI C)) hE hB inX4 0 rfl rfl 1 (by decide) q1_36 (fun _ h9 => h9) rfl dX4_clauseAt_6 ?_
    refine z_ge (tgt := 21) (X := x.toInt) (Y := ((C : Nat) : Int)) hE dX4_clauseAt_9 (by decide) rfl (nI_toInt (n := C) (by omega)) (fun c_2 => ?_) (fun c_2 => ?_)
    · refine lv_null hE.x hE.b dX4_clauseAt_21 ?_
      exact z_qret (v := none) (ws := lW g b a (nI T) (nI C) (nI U) (nI V) rd ro lw pl pc gv aw nt ++ X) hE hB hr (Or.inl ⟨_, rfl⟩) (⟨rfl, rfl⟩) dX4_clauseAt_22
    · · exact absurd ⟨by omega, by omega⟩ (of_decide_eq_false hx)

set_option maxHeartbeats 4000000 in
set_option maxRecDepth 100000 in
theorem c_X8_of (l : Launch) (g : zG) (x9 : Nat) (d : Nat) (rr : Nat) (im : Nat) (tx : Nat) (ab : Int32) (be : Int32) (tb : Nat → Int32) (ib : Nat → Option Nat) (da : Nat → Nat) (T : Nat) (C : Nat) (U : Nat) (V : Nat) (rd : Nat → Int32) (ro : Nat → Int32) (lw : Nat → Option Nat) (pl : Nat → Option Nat) (pc : Nat → Int32) (gv : Nat → Int32) (aw : Nat → Int32) (nt : Nat → Int32) (A : Nat → Nat → Int32) (ln : Nat) (x : Int32) (w : Int32) (Y : va_W) (X : va_W) (hn : nOK (A 0) T C V U) (hrel : relL (A 0) T C U V rd ro lw pl pc gv Y) : Met l yX8_of (Cond.code yX8_of cX8_of 4 (some .int) :: TBL) { frames := 1, cells := 0, slots := 0, locals := 21 } (zPc [.ref x9, .int x, .int w] g (xW g x9 d rr im tx (nI ln) ab be (A 3 0) (A 3 1) (A 3 2) tb ib ++ (lW g d da (nI T) (nI C) (nI U) (nI V) rd ro lw pl pc gv aw nt ++ (Y ++ X)))) (zQi g (fun r ws => r = (ofR (A 0) C x w) ∧ lS g x9 d da rr im tx (chk (ofOK C x w) A) ln ab be tb ib Y X ws)) 0 0 (zA (gz g)) := by
  refine z_start (by decide +kernel) rfl (Nat.le_of_ble_eq_true rfl) ?_
  intro p e s m args below meth c ls hE hr hnm hB hl
  have hl : lv_has ls 4 [(0, .ref x9), (1, .int x), (2, .int w)] := hl
  revert hB
  generalize s.heap = H
  generalize ([] : List Loc) = locs
  intro hB
  have hT6 := hn.T6
  have hC8 := hn.C8
  have hV8 := hn.V8
  have hU8 := hn.U8
  by_cases hp : pTown C x = true
  · refine lv_aload_n hE.x hE.b dX8_of_0 rfl (lv_at hl 0 rfl) ?_
    obtain ⟨i, hi, rfl⟩ := pTown_nI (T := C) hp (by omega)
    obtain ⟨q, k, hq, hk, hnk, hm⟩ := hrel.2.2.1 i hi
    refine z_get (v := .ref d) hE hB inX8 0 rfl rfl 0 (by decide) q1_79 (fun _ h9 => h9) rfl dX8_of_1 ?_
    refine lv_iload_n hE.x hE.b dX8_of_4 rfl (lv_at hl 1 rfl) ?_
    have hB := zB_perm hB (List.perm_append_comm_assoc _ _ _)
    refine z_qq hB (z_cV hE hB (c_X4_clauseAt_y l g d da T C U V rd ro lw pl pc gv aw nt i q (xW g x9 d rr im tx (nI ln) ab be (A 3 0) (A 3 1) (A 3 2) tb ib ++ (Y ++ X)) (by omega) (by omega) hq) q2_197 kX4_clauseAt ⟨rfl, rfl⟩ ⟨Nat.le_of_ble_eq_true rfl, Nat.le_of_ble_eq_true rfl⟩ 0 rfl rfl rfl hl.1 rfl (Nat.le_of_ble_eq_true rfl) dX8_of_5 ⟨Nat.le_of_ble_eq_true rfl, Nat.le_of_ble_eq_true rfl⟩) (fun r_1 w_2 H locs hw hB => ?_)
    obtain ⟨hr9, hw9⟩ := hw
    have hr9 := hr9.symm
    subst hr9
    have hw9 := hw9.symm
    subst hw9
    refine lv_astore_n (lv' := [(3, .ref q), (0, .ref x9), (1, .int (nI i)), (2, .int w)]) hE.x hE.b dX8_of_8 rfl hl (by decide) rfl (fun ls hl => ?_)
    refine lv_aload_n hE.x hE.b dX8_of_9 rfl (lv_at hl 0 rfl) ?_
    refine lv_ifnonnull (tgt := 20) hE.x hE.b dX8_of_10 (by decide) ?_
    refine lv_iload_n hE.x hE.b dX8_of_20 rfl (lv_at hl 3 rfl) ?_
    by_cases e_3 : w = nI 0
    · refine lv_tableIn (tgt := 64) hE.x hE.b dX8_of_21 (by rw [e_3]; decide) (by rw [e_3]; decide) (by rw [e_3]; rfl) (by decide) ?_
      refine lv_aload_n hE.x hE.b dX8_of_64 rfl (lv_at hl 0 rfl) ?_
      refine z_getb (v := .int (nI k)) hE hB hk (List.mem_append_right _ (List.mem_append_right _ (List.mem_append_left _ hm))) 0 (by decide) q1_181 (fun _ h9 => h9) rfl dX8_of_65 ?_
      have hB := zB_perm hB (List.perm_append_comm_assoc _ _ _)
      exact z_iret (v := (nI k)) (ws := xW g x9 d rr im tx (nI ln) ab be (A 3 0) (A 3 1) (A 3 2) tb ib ++ (lW g d da (nI T) (nI C) (nI U) (nI V) rd ro lw pl pc gv aw nt ++ (Y ++ X))) hE hB hr (⟨(by unfold ofR; rw [e_3, if_pos (show ofOK C (nI i) (nI 0) = true by unfold ofOK; rw [hp]; decide), if_neg (by decide), if_neg (by decide), rc_i (by omega), rc_i (by omega)]; exact hnk.symm), lS_i (A1 := A) T C U V rd ro lw pl pc gv aw nt Y (by rw [e_3]; exact chk_t (show ofOK C (nI i) (nI 0) = true by unfold ofOK; rw [hp]; decide)) rfl hn hrel (fun _ h => h)⟩) dX8_of_68
    by_cases e_4 : w = nI 1
    · refine lv_tableIn (tgt := 69) hE.x hE.b dX8_of_21 (by rw [e_4]; decide) (by rw [e_4]; decide) (by rw [e_4]; rfl) (by decide) ?_
      refine lv_aload_n hE.x hE.b dX8_of_69 rfl (lv_at hl 0 rfl) ?_
      refine z_getb (v := .int ((A 0) (46 + 5 * i + 1))) hE hB hk (List.mem_append_right _ (List.mem_append_right _ (List.mem_append_left _ hm))) 1 (by decide) q1_184 (fun _ h9 => h9) rfl dX8_of_70 ?_
      have hB := zB_perm hB (List.perm_append_comm_assoc _ _ _)
      exact z_iret (v := ((A 0) (46 + 5 * i + 1))) (ws := xW g x9 d rr im tx (nI ln) ab be (A 3 0) (A 3 1) (A 3 2) tb ib ++ (lW g d da (nI T) (nI C) (nI U) (nI V) rd ro lw pl pc gv aw nt ++ (Y ++ X))) hE hB hr (⟨(by unfold ofR; rw [e_4, if_pos (show ofOK C (nI i) (nI 1) = true by unfold ofOK; rw [hp]; decide), if_neg (by decide), if_neg (by decide), rc_i (by omega), rc_i (by omega)]), lS_i (A1 := A) T C U V rd ro lw pl pc gv aw nt Y (by rw [e_4]; exact chk_t (show ofOK C (nI i) (nI 1) = true by unfold ofOK; rw [hp]; decide)) rfl hn hrel (fun _ h => h)⟩) dX8_of_73
    by_cases e_5 : w = nI 2
    · refine lv_tableIn (tgt := 74) hE.x hE.b dX8_of_21 (by rw [e_5]; decide) (by rw [e_5]; decide) (by rw [e_5]; rfl) (by decide) ?_
      refine lv_aload_n hE.x hE.b dX8_of_74 rfl (lv_at hl 0 rfl) ?_
      refine z_getb (v := .int ((A 0) (46 + 5 * i + 2))) hE hB hk (List.mem_append_right _ (List.mem_append_right _ (List.mem_append_left _ hm))) 2 (by decide) q1_189 (fun _ h9 => h9) rfl dX8_of_75 ?_
      have hB := zB_perm hB (List.perm_append_comm_assoc _ _ _)
      exact z_iret (v := ((A 0) (46 + 5 * i + 2))) (ws := xW g x9 d rr im tx (nI ln) ab be (A 3 0) (A 3 1) (A 3 2) tb ib ++ (lW g d da (nI T) (nI C) (nI U) (nI V) rd ro lw pl pc gv aw nt ++ (Y ++ X))) hE hB hr (⟨(by unfold ofR; rw [e_5, if_pos (show ofOK C (nI i) (nI 2) = true by unfold ofOK; rw [hp]; decide), if_neg (by decide), if_neg (by decide), rc_i (by omega), rc_i (by omega)]), lS_i (A1 := A) T C U V rd ro lw pl pc gv aw nt Y (by rw [e_5]; exact chk_t (show ofOK C (nI i) (nI 2) = true by unfold ofOK; rw [hp]; decide)) rfl hn hrel (fun _ h => h)⟩) dX8_of_78
    by_cases e_6 : w = nI 3
    · refine lv_tableIn (tgt := 79) hE.x hE.b dX8_of_21 (by rw [e_6]; decide) (by rw [e_6]; decide) (by rw [e_6]; rfl) (by decide) ?_
      refine lv_aload_n hE.x hE.b dX8_of_79 rfl (lv_at hl 0 rfl) ?_
      refine z_getb (v := .int ((A 0) (46 + 5 * i + 3))) hE hB hk (List.mem_append_right _ (List.mem_append_right _ (List.mem_append_left _ hm))) 3 (by decide) q1_194 (fun _ h9 => h9) rfl dX8_of_80 ?_
      have hB := zB_perm hB (List.perm_append_comm_assoc _ _ _)
      exact z_iret (v := ((A 0) (46 + 5 * i + 3))) (ws := xW g x9 d rr im tx (nI ln) ab be (A 3 0) (A 3 1) (A 3 2) tb ib ++ (lW g d da (nI T) (nI C) (nI U) (nI V) rd ro lw pl pc gv aw nt ++ (Y ++ X))) hE hB hr (⟨(by unfold ofR; rw [e_6, if_pos (show ofOK C (nI i) (nI 3) = true by unfold ofOK; rw [hp]; decide), if_neg (by decide), if_neg (by decide), rc_i (by omega), rc_i (by omega)]), lS_i (A1 := A) T C U V rd ro lw pl pc gv aw nt Y (by rw [e_6]; exact chk_t (show ofOK C (nI i) (nI 3) = true by unfold ofOK; rw [hp]; decide)) rfl hn hrel (fun _ h => h)⟩) dX8_of_83
    by_cases e_7 : w = nI 4
    · refine lv_tableIn (tgt := 84) hE.x hE.b dX8_of_21 (by rw [e_7]; decide) (by rw [e_7]; decide) (by rw [e_7]; rfl) (by decide) ?_
      refine lv_aload_n hE.x hE.b dX8_of_84 rfl (lv_at hl 0 rfl) ?_
      refine z_getb (v := .int ((A 0) (46 + 5 * i + 4))) hE hB hk (List.mem_append_right _ (List.mem_append_right _ (List.mem_append_left _ hm))) 4 (by decide) q1_199 (fun _ h9 => h9) rfl dX8_of_85 ?_
      have hB := zB_perm hB (List.perm_append_comm_assoc _ _ _)
      exact z_iret (v := ((A 0) (46 + 5 * i + 4))) (ws := xW g x9 d rr im tx (nI ln) ab be (A 3 0) (A 3 1) (A 3 2) tb ib ++ (lW g d da (nI T) (nI C) (nI U) (nI V) rd ro lw pl pc gv aw nt ++ (Y ++ X))) hE hB hr (⟨(by unfold ofR; rw [e_7, if_pos (show ofOK C (nI i) (nI 4) = true by unfold ofOK; rw [hp]; decide), if_neg (by decide), if_neg (by decide), rc_i (by omega), rc_i (by omega)]), lS_i (A1 := A) T C U V rd ro lw pl pc gv aw nt Y (by rw [e_7]; exact chk_t (show ofOK C (nI i) (nI 4) = true by unfold ofOK; rw [hp]; decide)) rfl hn hrel (fun _ h => h)⟩) dX8_of_88
    by_cases e_8 : w = nI 5
    · refine lv_tableIn (tgt := 89) hE.x hE.b dX8_of_21 (by rw [e_8]; decide) (by rw [e_8]; decide) (by rw [e_8]; rfl) (by decide) ?_
      refine lv_aload_n hE.x hE.b dX8_of_89 rfl (lv_at hl 0 rfl) ?_
      refine z_qi hB (v_allows hE hB q2_201 hk (List.mem_append_right _ (List.mem_append_right _ (List.mem_append_left _ hm))) ⟨Nat.le_of_ble_eq_true rfl, Nat.le_of_ble_eq_true rfl⟩ hl.1 (Nat.le_of_ble_eq_true rfl) dX8_of_90 ⟨Nat.le_of_ble_eq_true rfl, Nat.le_of_ble_eq_true rfl⟩) (fun r9 w9 H locs hw hB => ?_)
      obtain ⟨hr9, hw9⟩ := hw
      have hr9 := hr9.symm
      subst hr9
      have hw9 := hw9.symm
      subst hw9
      refine z_bf (b := (alw (nI k))) (tgt := 100) hE dX8_of_93 (by decide) (fun c_9 => ?_) (fun c_9 => ?_)
      · refine lv_iconst (v := nI 0) hE.x hE.b dX8_of_100 rfl ?_
        have hB := zB_perm hB (List.perm_append_comm_assoc _ _ _)
        exact z_iret (v := (nI 0)) (ws := xW g x9 d rr im tx (nI ln) ab be (A 3 0) (A 3 1) (A 3 2) tb ib ++ (lW g d da (nI T) (nI C) (nI U) (nI V) rd ro lw pl pc gv aw nt ++ (Y ++ X))) hE hB hr (⟨(by unfold ofR; rw [e_8, if_pos (show ofOK C (nI i) (nI 5) = true by unfold ofOK; rw [hp]; decide), if_pos rfl, rc_i (by omega), hnk, c_9]; rfl), lS_i (A1 := A) T C U V rd ro lw pl pc gv aw nt Y (by rw [e_8]; exact chk_t (show ofOK C (nI i) (nI 5) = true by unfold ofOK; rw [hp]; decide)) rfl hn hrel (fun _ h => h)⟩) dX8_of_101
      · refine lv_iconst (v := nI 1) hE.x hE.b dX8_of_96 rfl ?_
        refine lv_goto (tgt := 101) hE.x hE.b dX8_of_97 (by decide) ?_
        have hB := zB_perm hB (List.perm_append_comm_assoc _ _ _)
        exact z_iret (v := (nI 1)) (ws := xW g x9 d rr im tx (nI ln) ab be (A 3 0) (A 3 1) (A 3 2) tb ib ++ (lW g d da (nI T) (nI C) (nI U) (nI V) rd ro lw pl pc gv aw nt ++ (Y ++ X))) hE hB hr (⟨(by unfold ofR; rw [e_8, if_pos (show ofOK C (nI i) (nI 5) = true by unfold ofOK; rw [hp]; decide), if_pos rfl, rc_i (by omega), hnk, c_9]; rfl), lS_i (A1 := A) T C U V rd ro lw pl pc gv aw nt Y (by rw [e_8]; exact chk_t (show ofOK C (nI i) (nI 5) = true by unfold ofOK; rw [hp]; decide)) rfl hn hrel (fun _ h => h)⟩) dX8_of_101
    by_cases e_10 : w = nI 6
    · refine lv_tableIn (tgt := 102) hE.x hE.b dX8_of_21 (by rw [e_10]; decide) (by rw [e_10]; decide) (by rw [e_10]; rfl) (by decide) ?_
      refine lv_aload_n hE.x hE.b dX8_of_102 rfl (lv_at hl 0 rfl) ?_
      refine z_qi hB (v_end hE hB q2_213 hk (List.mem_append_right _ (List.mem_append_right _ (List.mem_append_left _ hm))) ⟨Nat.le_of_ble_eq_true rfl, Nat.le_of_ble_eq_true rfl⟩ hl.1 (Nat.le_of_ble_eq_true rfl) dX8_of_103 ⟨Nat.le_of_ble_eq_true rfl, Nat.le_of_ble_eq_true rfl⟩) (fun r9 w9 H locs hw hB => ?_)
      obtain ⟨hr9, hw9⟩ := hw
      have hr9 := hr9.symm
      subst hr9
      have hw9 := hw9.symm
      subst hw9
      refine lv_aload_n hE.x hE.b dX8_of_106 rfl (lv_at hl 0 rfl) ?_
      refine z_getb (v := .int ((A 0) (46 + 5 * i + 2))) hE hB hk (List.mem_append_right _ (List.mem_append_right _ (List.mem_append_left _ hm))) 2 (by decide) q1_189 (fun _ h9 => h9) rfl dX8_of_107 ?_
      refine lv_isub hE.x hE.b dX8_of_110 ?_
      have hB := zB_perm hB (List.perm_append_comm_assoc _ _ _)
      exact z_iret (v := ((endV k ((A 0) (46 + 5 * i + 2)) ((A 0) (46 + 5 * i + 3))) - ((A 0) (46 + 5 * i + 2)))) (ws := xW g x9 d rr im tx (nI ln) ab be (A 3 0) (A 3 1) (A 3 2) tb ib ++ (lW g d da (nI T) (nI C) (nI U) (nI V) rd ro lw pl pc gv aw nt ++ (Y ++ X))) hE hB hr (⟨(by unfold ofR; rw [e_10, if_pos (show ofOK C (nI i) (nI 6) = true by unfold ofOK; rw [hp]; decide), if_neg (by decide), if_pos rfl, rc_i (by omega)]; exact spD_k hnk), lS_i (A1 := A) T C U V rd ro lw pl pc gv aw nt Y (by rw [e_10]; exact chk_t (show ofOK C (nI i) (nI 6) = true by unfold ofOK; rw [hp]; decide)) rfl hn hrel (fun _ h => h)⟩) dX8_of_111
    refine lv_tableOut (tgt := 112) hE.x hE.b dX8_of_21 (by have g0 := ne_toInt e_3 (by decide); have g1 := ne_toInt e_4 (by decide); have g2 := ne_toInt e_5 (by decide); have g3 := ne_toInt e_6 (by decide); have g4 := ne_toInt e_7 (by decide); have g5 := ne_toInt e_8 (by decide); have g6 := ne_toInt e_10 (by decide); omega) (by decide) ?_
    refine lv_aload_n hE.x hE.b dX8_of_112 rfl (lv_at hl 1 rfl) ?_
    refine lv_bipush (v := (-2)) hE.x hE.b dX8_of_113 rfl ?_
    have hB := zB_perm hB (List.perm_append_comm_assoc _ _ _)
    refine z_qi hB (z_cV hE hB (c_X8_bad l g x9 d rr im tx (nI ln) ab be (A 3 0) (A 3 1) (A 3 2) tb ib (-2) (lW g d da (nI T) (nI C) (nI U) (nI V) rd ro lw pl pc gv aw nt ++ (Y ++ X))) q1_126 kX8_bad ⟨rfl, rfl⟩ ⟨Nat.le_of_ble_eq_true rfl, Nat.le_of_ble_eq_true rfl⟩ 0 rfl rfl rfl hl.1 rfl (Nat.le_of_ble_eq_true rfl) dX8_of_115 ⟨Nat.le_of_ble_eq_true rfl, Nat.le_of_ble_eq_true rfl⟩) (fun r_11 w_12 H locs hw hB => ?_)
    obtain ⟨hr9, hw9⟩ := hw
    have hr9 := hr9.symm
    subst hr9
    have hw9 := hw9.symm
    subst hw9
    exact z_iret (v := (-2)) (ws := xW g x9 d rr im tx (nI ln) ab be ((A 3 0) + nI 1) (A 3 1) (A 3 2) tb ib ++ (lW g d da (nI T) (nI C) (nI U) (nI V) rd ro lw pl pc gv aw nt ++ (Y ++ X))) hE hB hr (⟨(by unfold ofR; rw [if_neg (by rw [(show ofOK C (nI i) w = false by unfold ofOK; rw [show pIn 0 6 w = false from decide_eq_false (fun h9 => by have g0 := ne_toInt e_3 (by decide); have g1 := ne_toInt e_4 (by decide); have g2 := ne_toInt e_5 (by decide); have g3 := ne_toInt e_6 (by decide); have g4 := ne_toInt e_7 (by decide); have g5 := ne_toInt e_8 (by decide); have g6 := ne_toInt e_10 (by decide); omega), Bool.and_false])]; decide)]), lS_i (A1 := bump 0 A) T C U V rd ro lw pl pc gv aw nt Y (chk_f (show ofOK C (nI i) w = false by unfold ofOK; rw [show pIn 0 6 w = false from decide_eq_false (fun h9 => by have g0 := ne_toInt e_3 (by decide); have g1 := ne_toInt e_4 (by decide); have g2 := ne_toInt e_5 (by decide); have g3 := ne_toInt e_6 (by decide); have g4 := ne_toInt e_7 (by decide); have g5 := ne_toInt e_8 (by decide); have g6 := ne_toInt e_10 (by decide); omega), Bool.and_false])) rfl hn hrel (fun _ h => h)⟩) dX8_of_118
  · refine lv_aload_n hE.x hE.b dX8_of_0 rfl (lv_at hl 0 rfl) ?_
    have hx : pTown C x = false := by cases hz : pTown C x with | false => rfl | true => exact absurd hz hp
    refine z_get (v := .ref d) hE hB inX8 0 rfl rfl 0 (by decide) q1_79 (fun _ h9 => h9) rfl dX8_of_1 ?_
    refine lv_iload_n hE.x hE.b dX8_of_4 rfl (lv_at hl 1 rfl) ?_
    have hB := zB_perm hB (List.perm_append_comm_assoc _ _ _)
    refine z_qq hB (z_cV hE hB (c_X4_clauseAt_n l g d da T C U V rd ro lw pl pc gv aw nt x (xW g x9 d rr im tx (nI ln) ab be (A 3 0) (A 3 1) (A 3 2) tb ib ++ (Y ++ X)) (by omega) hx) q2_197 kX4_clauseAt ⟨rfl, rfl⟩ ⟨Nat.le_of_ble_eq_true rfl, Nat.le_of_ble_eq_true rfl⟩ 0 rfl rfl rfl hl.1 rfl (Nat.le_of_ble_eq_true rfl) dX8_of_5 ⟨Nat.le_of_ble_eq_true rfl, Nat.le_of_ble_eq_true rfl⟩) (fun r_13 w_14 H locs hw hB => ?_)
    obtain ⟨hr9, hw9⟩ := hw
    have hr9 := hr9.symm
    subst hr9
    have hw9 := hw9.symm
    subst hw9
    refine lv_astore_nN (lv' := [(3, .null), (0, .ref x9), (1, .int x), (2, .int w)]) hE.x hE.b dX8_of_8 rfl hl (by decide) rfl (fun ls hl => ?_)
    refine lv_aload_nN hE.x hE.b dX8_of_9 rfl (lv_at hl 0 rfl) ?_
    refine lv_ifnonnullN hE.x hE.b dX8_of_10 ?_
    refine lv_aload_n hE.x hE.b dX8_of_13 rfl (lv_at hl 1 rfl) ?_
    refine lv_bipush (v := (-2)) hE.x hE.b dX8_of_14 rfl ?_
    have hB := zB_perm hB (List.perm_append_comm_assoc _ _ _)
    refine z_qi hB (z_cV hE hB (c_X8_bad l g x9 d rr im tx (nI ln) ab be (A 3 0) (A 3 1) (A 3 2) tb ib (-2) (lW g d da (nI T) (nI C) (nI U) (nI V) rd ro lw pl pc gv aw nt ++ (Y ++ X))) q1_126 kX8_bad ⟨rfl, rfl⟩ ⟨Nat.le_of_ble_eq_true rfl, Nat.le_of_ble_eq_true rfl⟩ 0 rfl rfl rfl hl.1 rfl (Nat.le_of_ble_eq_true rfl) dX8_of_16 ⟨Nat.le_of_ble_eq_true rfl, Nat.le_of_ble_eq_true rfl⟩) (fun r_15 w_16 H locs hw hB => ?_)
    obtain ⟨hr9, hw9⟩ := hw
    have hr9 := hr9.symm
    subst hr9
    have hw9 := hw9.symm
    subst hw9
    exact z_iret (v := (-2)) (ws := xW g x9 d rr im tx (nI ln) ab be ((A 3 0) + nI 1) (A 3 1) (A 3 2) tb ib ++ (lW g d da (nI T) (nI C) (nI U) (nI V) rd ro lw pl pc gv aw nt ++ (Y ++ X))) hE hB hr (⟨(by unfold ofR; rw [if_neg (by rw [(show ofOK C x w = false by unfold ofOK; rw [hx]; rfl)]; decide)]), lS_i (A1 := bump 0 A) T C U V rd ro lw pl pc gv aw nt Y (chk_f (show ofOK C x w = false by unfold ofOK; rw [hx]; rfl)) rfl hn hrel (fun _ h => h)⟩) dX8_of_19

set_option maxHeartbeats 4000000 in
set_option maxRecDepth 100000 in
theorem c_X8_far (l : Launch) (g : zG) (x9 : Nat) (d : Nat) (rr : Nat) (im : Nat) (tx : Nat) (ab : Int32) (be : Int32) (tb : Nat → Int32) (ib : Nat → Option Nat) (da : Nat → Nat) (T : Nat) (C : Nat) (U : Nat) (V : Nat) (rd : Nat → Int32) (ro : Nat → Int32) (lw : Nat → Option Nat) (pl : Nat → Option Nat) (pc : Nat → Int32) (gv : Nat → Int32) (aw : Nat → Int32) (nt : Nat → Int32) (A : Nat → Nat → Int32) (ln : Nat) (x : Int32) (y : Int32) (Y : va_W) (X : va_W) (hn : nOK (A 0) T C V U) (hrel : relL (A 0) T C U V rd ro lw pl pc gv Y) : Met l yX8_far (Cond.code yX8_far cX8_far 4 (some .int) :: TBL) { frames := 3, cells := 0, slots := 0, locals := 68 } (zPc [.ref x9, .int x, .int y] g (xW g x9 d rr im tx (nI ln) ab be (A 3 0) (A 3 1) (A 3 2) tb ib ++ (lW g d da (nI T) (nI C) (nI U) (nI V) rd ro lw pl pc gv aw nt ++ (Y ++ X)))) (zQi g (fun r ws => r = (farR (A 0) T x y) ∧ lS g x9 d da rr im tx (chk (pTown T x && pTown T y) A) ln ab be tb ib Y X ws)) 0 0 (zA (gz g)) := by
  refine z_start (by decide +kernel) rfl (Nat.le_of_ble_eq_true rfl) ?_
  intro p e s m args below meth c ls hE hr hnm hB hl
  have hl : lv_has ls 4 [(0, .ref x9), (1, .int x), (2, .int y)] := hl
  revert hB
  generalize s.heap = H
  generalize ([] : List Loc) = locs
  intro hB
  have hT6 := hn.T6
  have hC8 := hn.C8
  have hV8 := hn.V8
  have hU8 := hn.U8
  refine lv_aload_n hE.x hE.b dX8_far_0 rfl (lv_at hl 0 rfl) ?_
  refine z_get (v := .ref d) hE hB inX8 0 rfl rfl 0 (by decide) q1_79 (fun _ h9 => h9) rfl dX8_far_1 ?_
  refine lv_iload_n hE.x hE.b dX8_far_4 rfl (lv_at hl 1 rfl) ?_
  have hB := zB_perm hB (List.perm_append_comm_assoc _ _ _)
  refine z_qi hB (z_cV hE hB (c_X4_hasTown l g d da T C U V rd ro lw pl pc gv aw nt x (xW g x9 d rr im tx (nI ln) ab be (A 3 0) (A 3 1) (A 3 2) tb ib ++ (Y ++ X)) (by omega)) q1_142 kX4_hasTown ⟨rfl, rfl⟩ ⟨Nat.le_of_ble_eq_true rfl, Nat.le_of_ble_eq_true rfl⟩ 0 rfl rfl rfl hl.1 rfl (Nat.le_of_ble_eq_true rfl) dX8_far_5 ⟨Nat.le_of_ble_eq_true rfl, Nat.le_of_ble_eq_true rfl⟩) (fun r_1 w_2 H locs hw hB => ?_)
  obtain ⟨hr9, hw9⟩ := hw
  have hr9 := hr9.symm
  subst hr9
  have hw9 := hw9.symm
  subst hw9
  refine z_bf (b := (pTown T x)) (tgt := 22) hE dX8_far_8 (by decide) (fun c_3 => ?_) (fun c_3 => ?_)
  · refine lv_aload_n hE.x hE.b dX8_far_22 rfl (lv_at hl 0 rfl) ?_
    refine lv_bipush (v := (-2)) hE.x hE.b dX8_far_23 rfl ?_
    have hB := zB_perm hB (List.perm_append_comm_assoc _ _ _)
    refine z_qi hB (z_cV hE hB (c_X8_bad l g x9 d rr im tx (nI ln) ab be (A 3 0) (A 3 1) (A 3 2) tb ib (-2) (lW g d da (nI T) (nI C) (nI U) (nI V) rd ro lw pl pc gv aw nt ++ (Y ++ X))) q1_126 kX8_bad ⟨rfl, rfl⟩ ⟨Nat.le_of_ble_eq_true rfl, Nat.le_of_ble_eq_true rfl⟩ 0 rfl rfl rfl hl.1 rfl (Nat.le_of_ble_eq_true rfl) dX8_far_25 ⟨Nat.le_of_ble_eq_true rfl, Nat.le_of_ble_eq_true rfl⟩) (fun r_4 w_5 H locs hw hB => ?_)
    obtain ⟨hr9, hw9⟩ := hw
    have hr9 := hr9.symm
    subst hr9
    have hw9 := hw9.symm
    subst hw9
    exact z_iret (v := (-2)) (ws := xW g x9 d rr im tx (nI ln) ab be ((A 3 0) + nI 1) (A 3 1) (A 3 2) tb ib ++ (lW g d da (nI T) (nI C) (nI U) (nI V) rd ro lw pl pc gv aw nt ++ (Y ++ X))) hE hB hr (⟨(by unfold farR; rw [if_neg (by rw [(show (pTown T x && pTown T y) = false by simp [c_3])]; decide)]), lS_i (A1 := bump 0 A) T C U V rd ro lw pl pc gv aw nt Y (chk_f (show (pTown T x && pTown T y) = false by simp [c_3])) rfl hn hrel (fun _ h => h)⟩) dX8_far_28
  · refine lv_aload_n hE.x hE.b dX8_far_11 rfl (lv_at hl 0 rfl) ?_
    refine z_get (v := .ref d) hE hB inX8 9 rfl rfl 0 (by decide) q1_79 (fun _ h9 => h9) rfl dX8_far_12 ?_
    refine lv_iload_n hE.x hE.b dX8_far_15 rfl (lv_at hl 2 rfl) ?_
    refine z_qi hB (z_cV hE hB (c_X4_hasTown l g d da T C U V rd ro lw pl pc gv aw nt y (xW g x9 d rr im tx (nI ln) ab be (A 3 0) (A 3 1) (A 3 2) tb ib ++ (Y ++ X)) (by omega)) q1_142 kX4_hasTown ⟨rfl, rfl⟩ ⟨Nat.le_of_ble_eq_true rfl, Nat.le_of_ble_eq_true rfl⟩ 0 rfl rfl rfl hl.1 rfl (Nat.le_of_ble_eq_true rfl) dX8_far_16 ⟨Nat.le_of_ble_eq_true rfl, Nat.le_of_ble_eq_true rfl⟩) (fun r_6 w_7 H locs hw hB => ?_)
    obtain ⟨hr9, hw9⟩ := hw
    have hr9 := hr9.symm
    subst hr9
    have hw9 := hw9.symm
    subst hw9
    refine z_bt (b := (pTown T y)) (tgt := 29) hE dX8_far_19 (by decide) (fun c_8 => ?_) (fun c_8 => ?_)
    · obtain ⟨i, hi, rfl⟩ := pTown_nI c_3 (by omega)
      obtain ⟨j, hj, rfl⟩ := pTown_nI c_8 (by omega)
      refine lv_aload_n hE.x hE.b dX8_far_29 rfl (lv_at hl 0 rfl) ?_
      refine z_get (v := .ref d) hE hB inX8 9 rfl rfl 0 (by decide) q1_79 (fun _ h9 => h9) rfl dX8_far_30 ?_
      refine lv_iload_n hE.x hE.b dX8_far_33 rfl (lv_at hl 1 rfl) ?_
      refine z_qv hB (z_cV hE hB (c_X4_measure l g d da T C U V rd ro lw pl pc gv aw nt i (A 0) Y (xW g x9 d rr im tx (nI ln) ab be (A 3 0) (A 3 1) (A 3 2) tb ib ++ (Y ++ X)) hn hrel (fun _ h => List.mem_append_right _ (List.mem_append_left _ h)) (by omega)) q2_229 kX4_measure ⟨rfl, rfl⟩ ⟨Nat.le_of_ble_eq_true rfl, Nat.le_of_ble_eq_true rfl⟩ 0 rfl rfl rfl hl.1 rfl (Nat.le_of_ble_eq_true rfl) dX8_far_34 ⟨Nat.le_of_ble_eq_true rfl, Nat.le_of_ble_eq_true rfl⟩) (fun w_10 H locs hw hB => ?_)
      obtain ⟨f9_11, hw9, hf_12⟩ := hw
      have hw9 := hw9.symm
      subst hw9
      refine lv_aload_n hE.x hE.b dX8_far_37 rfl (lv_at hl 0 rfl) ?_
      refine z_get (v := .ref d) hE hB inX8 9 rfl rfl 0 (by decide) q1_79 (fun _ h9 => h9) rfl dX8_far_38 ?_
      refine z_get (v := .ref (da 6)) hE hB inX4 0 rfl rfl 10 (by decide) q1_50 (fun _ h9 => h9) rfl dX8_far_41 ?_
      refine lv_iload_n hE.x hE.b dX8_far_44 rfl (lv_at hl 2 rfl) ?_
      refine z_iald (k := j) (f := f9_11) hE hB 7 rfl (by omega) (by decide) dX8_far_45 ?_
      refine z_top (y := (nI (fC (A 0) T i j))) (hf_12 j (by omega)) ?_
      refine lv_istore_n (lv' := [(3, .int (nI (fC (A 0) T i j))), (0, .ref x9), (1, .int (nI i)), (2, .int (nI j))]) hE.x hE.b dX8_far_46 rfl hl (by decide) rfl (fun ls hl => ?_)
      have hfd := fC_D hn (fr := i) (by omega) j
      refine lv_iload_n hE.x hE.b dX8_far_47 rfl (lv_at hl 0 rfl) ?_
      refine lv_sipush (v := (nI 1000)) hE.x hE.b dX8_far_48 rfl ?_
      refine z_ge (tgt := 58) (X := (((fC (A 0) T i j) : Nat) : Int)) (Y := (1000 : Int)) hE dX8_far_51 (by decide) (nI_toInt (n := (fC (A 0) T i j)) (by omega)) rfl (fun c_13 => ?_) (fun c_13 => ?_)
      · refine lv_iconst (v := (-1)) hE.x hE.b dX8_far_58 rfl ?_
        have hB := zB_perm hB (List.perm_append_comm_assoc _ _ _)
        exact z_iret (v := (-1)) (ws := xW g x9 d rr im tx (nI ln) ab be (A 3 0) (A 3 1) (A 3 2) tb ib ++ (lW g d da (nI T) (nI C) (nI U) (nI V) rd ro lw pl pc gv f9_11 nt ++ (Y ++ X))) hE hB hr (⟨(by unfold farR; rw [if_pos (show (pTown T (nI i) && pTown T (nI j)) = true by simp [c_3, c_8]), rc_i (by omega), rc_i (by omega), if_neg (by omega)]), lS_i (A1 := A) T C U V rd ro lw pl pc gv f9_11 nt Y (chk_t (show (pTown T (nI i) && pTown T (nI j)) = true by simp [c_3, c_8])) rfl hn hrel (fun _ h => h)⟩) dX8_far_59
      · refine lv_iload_n hE.x hE.b dX8_far_54 rfl (lv_at hl 0 rfl) ?_
        refine lv_goto (tgt := 59) hE.x hE.b dX8_far_55 (by decide) ?_
        have hB := zB_perm hB (List.perm_append_comm_assoc _ _ _)
        exact z_iret (v := (nI (fC (A 0) T i j))) (ws := xW g x9 d rr im tx (nI ln) ab be (A 3 0) (A 3 1) (A 3 2) tb ib ++ (lW g d da (nI T) (nI C) (nI U) (nI V) rd ro lw pl pc gv f9_11 nt ++ (Y ++ X))) hE hB hr (⟨(by unfold farR; rw [if_pos (show (pTown T (nI i) && pTown T (nI j)) = true by simp [c_3, c_8]), rc_i (by omega), rc_i (by omega), if_pos (by omega), show fD (A 0) T i j = fC (A 0) T i j by omega]), lS_i (A1 := A) T C U V rd ro lw pl pc gv f9_11 nt Y (chk_t (show (pTown T (nI i) && pTown T (nI j)) = true by simp [c_3, c_8])) rfl hn hrel (fun _ h => h)⟩) dX8_far_59
    · refine lv_aload_n hE.x hE.b dX8_far_22 rfl (lv_at hl 0 rfl) ?_
      refine lv_bipush (v := (-2)) hE.x hE.b dX8_far_23 rfl ?_
      have hB := zB_perm hB (List.perm_append_comm_assoc _ _ _)
      refine z_qi hB (z_cV hE hB (c_X8_bad l g x9 d rr im tx (nI ln) ab be (A 3 0) (A 3 1) (A 3 2) tb ib (-2) (lW g d da (nI T) (nI C) (nI U) (nI V) rd ro lw pl pc gv aw nt ++ (Y ++ X))) q1_126 kX8_bad ⟨rfl, rfl⟩ ⟨Nat.le_of_ble_eq_true rfl, Nat.le_of_ble_eq_true rfl⟩ 0 rfl rfl rfl hl.1 rfl (Nat.le_of_ble_eq_true rfl) dX8_far_25 ⟨Nat.le_of_ble_eq_true rfl, Nat.le_of_ble_eq_true rfl⟩) (fun r_14 w_15 H locs hw hB => ?_)
      obtain ⟨hr9, hw9⟩ := hw
      have hr9 := hr9.symm
      subst hr9
      have hw9 := hw9.symm
      subst hw9
      exact z_iret (v := (-2)) (ws := xW g x9 d rr im tx (nI ln) ab be ((A 3 0) + nI 1) (A 3 1) (A 3 2) tb ib ++ (lW g d da (nI T) (nI C) (nI U) (nI V) rd ro lw pl pc gv aw nt ++ (Y ++ X))) hE hB hr (⟨(by unfold farR; rw [if_neg (by rw [(show (pTown T x && pTown T y) = false by simp [c_3, c_8])]; decide)]), lS_i (A1 := bump 0 A) T C U V rd ro lw pl pc gv aw nt Y (chk_f (show (pTown T x && pTown T y) = false by simp [c_3, c_8])) rfl hn hrel (fun _ h => h)⟩) dX8_far_28

set_option maxHeartbeats 4000000 in
set_option maxRecDepth 100000 in
theorem c_X8_allowed (l : Launch) (g : zG) (x9 : Nat) (d : Nat) (rr : Nat) (im : Nat) (tx : Nat) (ab : Int32) (be : Int32) (tb : Nat → Int32) (ib : Nat → Option Nat) (da : Nat → Nat) (T : Nat) (C : Nat) (U : Nat) (V : Nat) (rd : Nat → Int32) (ro : Nat → Int32) (lw : Nat → Option Nat) (pl : Nat → Option Nat) (pc : Nat → Int32) (gv : Nat → Int32) (aw : Nat → Int32) (nt : Nat → Int32) (A : Nat → Nat → Int32) (ln : Nat) (tw : Int32) (ac : Int32) (dd : Int32) (dy : Int32) (sh : Int32) (w : Int32) (Y : va_W) (X : va_W) (hn : nOK (A 0) T C V U) (hrel : relL (A 0) T C U V rd ro lw pl pc gv Y) : Met l yX8_allowed (Cond.code yX8_allowed cX8_allowed 8 (some .int) :: TBL) { frames := 4, cells := 0, slots := 0, locals := 92 } (zPc [.ref x9, .int tw, .int ac, .int dd, .int dy, .int sh, .int w] g (xW g x9 d rr im tx (nI ln) ab be (A 3 0) (A 3 1) (A 3 2) tb ib ++ (lW g d da (nI T) (nI C) (nI U) (nI V) rd ro lw pl pc gv aw nt ++ (Y ++ X)))) (zQi g (fun r ws => r = (allowedR (A 0) T C tw ac dd dy sh w) ∧ lS g x9 d da rr im tx (chk (askOK T tw ac dd dy sh && pIn 0 1 w) A) ln ab be tb ib Y X ws)) 0 0 (zA (gz g)) := by
  refine z_start (by decide +kernel) rfl (Nat.le_of_ble_eq_true rfl) ?_
  intro p e s m args below meth c ls hE hr hnm hB hl
  have hl : lv_has ls 8 [(0, .ref x9), (1, .int tw), (2, .int ac), (3, .int dd), (4, .int dy), (5, .int sh), (6, .int w)] := hl
  revert hB
  generalize s.heap = H
  generalize ([] : List Loc) = locs
  intro hB
  have hT6 := hn.T6
  have hC8 := hn.C8
  have hV8 := hn.V8
  have hU8 := hn.U8
  refine lv_aload_n hE.x hE.b dX8_allowed_0 rfl (lv_at hl 0 rfl) ?_
  refine lv_iload_n hE.x hE.b dX8_allowed_1 rfl (lv_at hl 1 rfl) ?_
  refine lv_iload_n hE.x hE.b dX8_allowed_2 rfl (lv_at hl 2 rfl) ?_
  refine lv_iload_n hE.x hE.b dX8_allowed_3 rfl (lv_at hl 3 rfl) ?_
  refine lv_iload hE.x hE.b dX8_allowed_4 (lv_at hl 4 rfl) ?_
  refine lv_iload hE.x hE.b dX8_allowed_6 (lv_at hl 5 rfl) ?_
  refine z_qi hB (z_cV hE hB (c_X8_isAsked l g x9 d rr im tx (nI ln) ab be (A 3 0) (A 3 1) (A 3 2) tb ib da T C U V rd ro lw pl pc gv aw nt tw ac dd dy sh (Y ++ X) (by omega)) q3_2 kX8_isAsked ⟨rfl, rfl⟩ ⟨Nat.le_of_ble_eq_true rfl, Nat.le_of_ble_eq_true rfl⟩ 0 rfl rfl rfl hl.1 rfl (Nat.le_of_ble_eq_true rfl) dX8_allowed_8 ⟨Nat.le_of_ble_eq_true rfl, Nat.le_of_ble_eq_true rfl⟩) (fun r_1 w_2 H locs hw hB => ?_)
  obtain ⟨hr9, hw9⟩ := hw
  have hr9 := hr9.symm
  subst hr9
  have hw9 := hw9.symm
  subst hw9
  refine z_bf (b := (askOK T tw ac dd dy sh)) (tgt := 24) hE dX8_allowed_11 (by decide) (fun c_3 => ?_) (fun c_3 => ?_)
  · refine lv_aload_n hE.x hE.b dX8_allowed_24 rfl (lv_at hl 0 rfl) ?_
    refine lv_bipush (v := (-10)) hE.x hE.b dX8_allowed_25 rfl ?_
    refine z_qi hB (z_cV hE hB (c_X8_bad l g x9 d rr im tx (nI ln) ab be (A 3 0) (A 3 1) (A 3 2) tb ib (-10) (lW g d da (nI T) (nI C) (nI U) (nI V) rd ro lw pl pc gv aw nt ++ (Y ++ X))) q1_126 kX8_bad ⟨rfl, rfl⟩ ⟨Nat.le_of_ble_eq_true rfl, Nat.le_of_ble_eq_true rfl⟩ 0 rfl rfl rfl hl.1 rfl (Nat.le_of_ble_eq_true rfl) dX8_allowed_27 ⟨Nat.le_of_ble_eq_true rfl, Nat.le_of_ble_eq_true rfl⟩) (fun r_4 w_5 H locs hw hB => ?_)
    obtain ⟨hr9, hw9⟩ := hw
    have hr9 := hr9.symm
    subst hr9
    have hw9 := hw9.symm
    subst hw9
    exact z_iret (v := (-10)) (ws := xW g x9 d rr im tx (nI ln) ab be ((A 3 0) + nI 1) (A 3 1) (A 3 2) tb ib ++ (lW g d da (nI T) (nI C) (nI U) (nI V) rd ro lw pl pc gv aw nt ++ (Y ++ X))) hE hB hr (⟨(by unfold allowedR; rw [if_neg (by rw [(show (askOK T tw ac dd dy sh && pIn 0 1 w) = false by unfold pIn; simp [c_3])]; decide)]), lS_i (A1 := bump 0 A) T C U V rd ro lw pl pc gv aw nt Y (chk_f (show (askOK T tw ac dd dy sh && pIn 0 1 w) = false by unfold pIn; simp [c_3])) rfl hn hrel (fun _ h => h)⟩) dX8_allowed_30
  · refine lv_iload hE.x hE.b dX8_allowed_14 (lv_at hl 6 rfl) ?_
    refine lv_iconst (v := nI 0) hE.x hE.b dX8_allowed_16 rfl ?_
    refine lv_iconst (v := nI 1) hE.x hE.b dX8_allowed_17 rfl ?_
    refine z_qi hB (z_cS hE hB (c_X8_within l g w (nI 0) (nI 1) w.toInt (0 : Int) (1 : Int) (xW g x9 d rr im tx (nI ln) ab be (A 3 0) (A 3 1) (A 3 2) tb ib ++ (lW g d da (nI T) (nI C) (nI U) (nI V) rd ro lw pl pc gv aw nt ++ (Y ++ X))) rfl rfl rfl) q1_123 kX8_within ⟨rfl, rfl⟩ ⟨Nat.le_of_ble_eq_true rfl, Nat.le_of_ble_eq_true rfl⟩ rfl hl.1 rfl (Nat.le_of_ble_eq_true rfl) dX8_allowed_18 ⟨Nat.le_of_ble_eq_true rfl, Nat.le_of_ble_eq_true rfl⟩) (fun r_6 w_7 H locs hw hB => ?_)
    obtain ⟨hr9, hw9⟩ := hw
    have hr9 := hr9.symm
    subst hr9
    have hw9 := hw9.symm
    subst hw9
    refine z_bt (b := (inZ (0 : Int) (1 : Int) w.toInt)) (tgt := 31) hE dX8_allowed_21 (by decide) (fun c_8 => ?_) (fun c_8 => ?_)
    · obtain ⟨t, a1, d1, y1, z1, ht, ha1, hd1, hy1, hz1, rfl, rfl, rfl, rfl, rfl⟩ := ask_i c_3 hT6
      refine lv_iload hE.x hE.b dX8_allowed_31 (lv_at hl 4 rfl) ?_
      refine lv_iload hE.x hE.b dX8_allowed_33 (lv_at hl 5 rfl) ?_
      refine z_qi hB (z_cS hE hB (c_X8_asker l g y1 z1 (xW g x9 d rr im tx (nI ln) ab be (A 3 0) (A 3 1) (A 3 2) tb ib ++ (lW g d da (nI T) (nI C) (nI U) (nI V) rd ro lw pl pc gv aw nt ++ (Y ++ X)))) q3_6 kX8_asker ⟨rfl, rfl⟩ ⟨Nat.le_of_ble_eq_true rfl, Nat.le_of_ble_eq_true rfl⟩ rfl hl.1 rfl (Nat.le_of_ble_eq_true rfl) dX8_allowed_35 ⟨Nat.le_of_ble_eq_true rfl, Nat.le_of_ble_eq_true rfl⟩) (fun r_9 w_10 H locs hw hB => ?_)
      obtain ⟨hr9, hw9⟩ := hw
      have hr9 := hr9.symm
      subst hr9
      have hw9 := hw9.symm
      subst hw9
      refine lv_istore (lv' := [(7, .int (nI (2 * y1 + z1))), (0, .ref x9), (1, .int (nI t)), (2, .int (nI a1)), (3, .int (nI d1)), (4, .int (nI y1)), (5, .int (nI z1)), (6, .int w)]) hE.x hE.b dX8_allowed_38 hl (by decide) rfl (fun ls hl => ?_)
      refine lv_iload hE.x hE.b dX8_allowed_40 (lv_at hl 7 rfl) ?_
      refine lv_iconst (v := nI 1) hE.x hE.b dX8_allowed_42 rfl ?_
      refine lv_icmp_ne (tgt := 59) hE.x hE.b dX8_allowed_43 (by decide) (fun c_11 => ?_) (fun c_11 => ?_)
      · refine lv_aload_n hE.x hE.b dX8_allowed_59 rfl (lv_at hl 1 rfl) ?_
        refine z_get (v := .ref d) hE hB inX8 0 rfl rfl 0 (by decide) q1_79 (fun _ h9 => h9) rfl dX8_allowed_60 ?_
        refine lv_iload_n hE.x hE.b dX8_allowed_63 rfl (lv_at hl 2 rfl) ?_
        refine lv_iload_n hE.x hE.b dX8_allowed_64 rfl (lv_at hl 3 rfl) ?_
        refine lv_iload_n hE.x hE.b dX8_allowed_65 rfl (lv_at hl 4 rfl) ?_
        refine lv_iload hE.x hE.b dX8_allowed_66 (lv_at hl 0 rfl) ?_
        have hB := zB_perm hB (List.perm_append_comm_assoc _ _ _)
        refine z_qi hB (z_cV hE hB (c_X4_forbids l g d da T C U V rd ro lw pl pc gv aw nt t (nI a1) (nI d1) (2 * y1 + z1) (A 0) Y (xW g x9 d rr im tx (nI ln) ab be (A 3 0) (A 3 1) (A 3 2) tb ib ++ (Y ++ X)) hn hrel (fun _ h => List.mem_append_right _ (List.mem_append_left _ h)) (by omega) (by omega)) q3_64 kX4_forbids ⟨rfl, rfl⟩ ⟨Nat.le_of_ble_eq_true rfl, Nat.le_of_ble_eq_true rfl⟩ 0 rfl rfl rfl hl.1 rfl (Nat.le_of_ble_eq_true rfl) dX8_allowed_68 ⟨Nat.le_of_ble_eq_true rfl, Nat.le_of_ble_eq_true rfl⟩) (fun r_12 w_13 H locs hw hB => ?_)
        obtain ⟨hr9, hw9⟩ := hw
        have hr9 := hr9.symm
        subst hr9
        have hw9 := hw9.symm
        subst hw9
        refine z_top (y := (bI (!(isA (A 0) C t (nI a1) (nI d1) (nI y1) (nI z1) 0)))) (by rw [show (2 * y1 + z1) / 2 = y1 by omega, show (2 * y1 + z1) % 2 = z1 by omega]) ?_
        refine z_bf (b := (!(isA (A 0) C t (nI a1) (nI d1) (nI y1) (nI z1) 0))) (tgt := 78) hE dX8_allowed_71 (by decide) (fun c_14 => ?_) (fun c_14 => ?_)
        · refine lv_iconst (v := nI 1) hE.x hE.b dX8_allowed_78 rfl ?_
          have hB := zB_perm hB (List.perm_append_comm_assoc _ _ _)
          exact z_iret (v := (nI 1)) (ws := xW g x9 d rr im tx (nI ln) ab be (A 3 0) (A 3 1) (A 3 2) tb ib ++ (lW g d da (nI T) (nI C) (nI U) (nI V) rd ro lw pl pc gv aw nt ++ (Y ++ X))) hE hB hr (⟨(by unfold allowedR; rw [if_pos (show (askOK T (nI t) (nI a1) (nI d1) (nI y1) (nI z1) && pIn 0 1 w) = true by unfold pIn; simp [c_3, c_8]), if_neg c_11, rc_i (by omega), show (isA (A 0) C t (nI a1) (nI d1) (nI y1) (nI z1) 0) = true by simpa using c_14]; rfl), lS_i (A1 := A) T C U V rd ro lw pl pc gv aw nt Y (chk_t (show (askOK T (nI t) (nI a1) (nI d1) (nI y1) (nI z1) && pIn 0 1 w) = true by unfold pIn; simp [c_3, c_8])) rfl hn hrel (fun _ h => h)⟩) dX8_allowed_79
        · refine lv_iconst (v := nI 0) hE.x hE.b dX8_allowed_74 rfl ?_
          refine lv_goto (tgt := 79) hE.x hE.b dX8_allowed_75 (by decide) ?_
          have hB := zB_perm hB (List.perm_append_comm_assoc _ _ _)
          exact z_iret (v := (nI 0)) (ws := xW g x9 d rr im tx (nI ln) ab be (A 3 0) (A 3 1) (A 3 2) tb ib ++ (lW g d da (nI T) (nI C) (nI U) (nI V) rd ro lw pl pc gv aw nt ++ (Y ++ X))) hE hB hr (⟨(by unfold allowedR; rw [if_pos (show (askOK T (nI t) (nI a1) (nI d1) (nI y1) (nI z1) && pIn 0 1 w) = true by unfold pIn; simp [c_3, c_8]), if_neg c_11, rc_i (by omega), show (isA (A 0) C t (nI a1) (nI d1) (nI y1) (nI z1) 0) = false by simpa using c_14]; rfl), lS_i (A1 := A) T C U V rd ro lw pl pc gv aw nt Y (chk_t (show (askOK T (nI t) (nI a1) (nI d1) (nI y1) (nI z1) && pIn 0 1 w) = true by unfold pIn; simp [c_3, c_8])) rfl hn hrel (fun _ h => h)⟩) dX8_allowed_79
      · refine lv_aload_n hE.x hE.b dX8_allowed_46 rfl (lv_at hl 1 rfl) ?_
        refine z_get (v := .ref d) hE hB inX8 0 rfl rfl 0 (by decide) q1_79 (fun _ h9 => h9) rfl dX8_allowed_47 ?_
        refine lv_iload_n hE.x hE.b dX8_allowed_50 rfl (lv_at hl 2 rfl) ?_
        refine lv_iload_n hE.x hE.b dX8_allowed_51 rfl (lv_at hl 3 rfl) ?_
        refine lv_iload_n hE.x hE.b dX8_allowed_52 rfl (lv_at hl 4 rfl) ?_
        refine lv_iload hE.x hE.b dX8_allowed_53 (lv_at hl 0 rfl) ?_
        have hB := zB_perm hB (List.perm_append_comm_assoc _ _ _)
        refine z_qi hB (z_cV hE hB (c_X4_decider l g d da T C U V rd ro lw pl pc gv aw nt t (nI a1) (nI d1) (2 * y1 + z1) (A 0) Y (xW g x9 d rr im tx (nI ln) ab be (A 3 0) (A 3 1) (A 3 2) tb ib ++ (Y ++ X)) hn hrel (fun _ h => List.mem_append_right _ (List.mem_append_left _ h)) (by omega) (by omega)) q3_9 kX4_decider ⟨rfl, rfl⟩ ⟨Nat.le_of_ble_eq_true rfl, Nat.le_of_ble_eq_true rfl⟩ 0 rfl rfl rfl hl.1 rfl (Nat.le_of_ble_eq_true rfl) dX8_allowed_55 ⟨Nat.le_of_ble_eq_true rfl, Nat.le_of_ble_eq_true rfl⟩) (fun r_15 w_16 H locs hw hB => ?_)
        obtain ⟨hr9, hw9⟩ := hw
        have hr9 := hr9.symm
        subst hr9
        have hw9 := hw9.symm
        subst hw9
        refine z_top (y := (oI (decN (A 0) C t (nI a1) (nI d1) (nI y1) (nI z1) 0))) (by rw [show (2 * y1 + z1) / 2 = y1 by omega, show (2 * y1 + z1) % 2 = z1 by omega]) ?_
        have hB := zB_perm hB (List.perm_append_comm_assoc _ _ _)
        exact z_iret (v := (oI (decN (A 0) C t (nI a1) (nI d1) (nI y1) (nI z1) 0))) (ws := xW g x9 d rr im tx (nI ln) ab be (A 3 0) (A 3 1) (A 3 2) tb ib ++ (lW g d da (nI T) (nI C) (nI U) (nI V) rd ro lw pl pc gv aw nt ++ (Y ++ X))) hE hB hr (⟨(by unfold allowedR; rw [if_pos (show (askOK T (nI t) (nI a1) (nI d1) (nI y1) (nI z1) && pIn 0 1 w) = true by unfold pIn; simp [c_3, c_8]), if_pos c_11, rc_i (by omega)]), lS_i (A1 := A) T C U V rd ro lw pl pc gv aw nt Y (chk_t (show (askOK T (nI t) (nI a1) (nI d1) (nI y1) (nI z1) && pIn 0 1 w) = true by unfold pIn; simp [c_3, c_8])) rfl hn hrel (fun _ h => h)⟩) dX8_allowed_58
    · refine lv_aload_n hE.x hE.b dX8_allowed_24 rfl (lv_at hl 0 rfl) ?_
      refine lv_bipush (v := (-10)) hE.x hE.b dX8_allowed_25 rfl ?_
      refine z_qi hB (z_cV hE hB (c_X8_bad l g x9 d rr im tx (nI ln) ab be (A 3 0) (A 3 1) (A 3 2) tb ib (-10) (lW g d da (nI T) (nI C) (nI U) (nI V) rd ro lw pl pc gv aw nt ++ (Y ++ X))) q1_126 kX8_bad ⟨rfl, rfl⟩ ⟨Nat.le_of_ble_eq_true rfl, Nat.le_of_ble_eq_true rfl⟩ 0 rfl rfl rfl hl.1 rfl (Nat.le_of_ble_eq_true rfl) dX8_allowed_27 ⟨Nat.le_of_ble_eq_true rfl, Nat.le_of_ble_eq_true rfl⟩) (fun r_17 w_18 H locs hw hB => ?_)
      obtain ⟨hr9, hw9⟩ := hw
      have hr9 := hr9.symm
      subst hr9
      have hw9 := hw9.symm
      subst hw9
      exact z_iret (v := (-10)) (ws := xW g x9 d rr im tx (nI ln) ab be ((A 3 0) + nI 1) (A 3 1) (A 3 2) tb ib ++ (lW g d da (nI T) (nI C) (nI U) (nI V) rd ro lw pl pc gv aw nt ++ (Y ++ X))) hE hB hr (⟨(by unfold allowedR; rw [if_neg (by rw [(show (askOK T tw ac dd dy sh && pIn 0 1 w) = false by unfold pIn; simp [c_3, c_8])]; decide)]), lS_i (A1 := bump 0 A) T C U V rd ro lw pl pc gv aw nt Y (chk_f (show (askOK T tw ac dd dy sh && pIn 0 1 w) = false by unfold pIn; simp [c_3, c_8])) rfl hn hrel (fun _ h => h)⟩) dX8_allowed_30

set_option maxHeartbeats 4000000 in
set_option maxRecDepth 100000 in
theorem c_X8_nearest (l : Launch) (g : zG) (x9 : Nat) (d : Nat) (rr : Nat) (im : Nat) (tx : Nat) (ab : Int32) (be : Int32) (tb : Nat → Int32) (ib : Nat → Option Nat) (da : Nat → Nat) (T : Nat) (C : Nat) (U : Nat) (V : Nat) (rd : Nat → Int32) (ro : Nat → Int32) (lw : Nat → Option Nat) (pl : Nat → Option Nat) (pc : Nat → Int32) (gv : Nat → Int32) (aw : Nat → Int32) (nt : Nat → Int32) (A : Nat → Nat → Int32) (ln : Nat) (tw : Int32) (ac : Int32) (dd : Int32) (dy : Int32) (sh : Int32) (w : Int32) (Y : va_W) (X : va_W) (hn : nOK (A 0) T C V U) (hrel : relL (A 0) T C U V rd ro lw pl pc gv Y) : Met l yX8_nearest (Cond.code yX8_nearest cX8_nearest 10 (some .int) :: TBL) { frames := 5, cells := 0, slots := 0, locals := 118 } (zPc [.ref x9, .int tw, .int ac, .int dd, .int dy, .int sh, .int w] g (xW g x9 d rr im tx (nI ln) ab be (A 3 0) (A 3 1) (A 3 2) tb ib ++ (lW g d da (nI T) (nI C) (nI U) (nI V) rd ro lw pl pc gv aw nt ++ (Y ++ X)))) (zQi g (fun r ws => r = (nearestR (A 0) T C tw ac dd dy sh w) ∧ lS g x9 d da rr im tx (chk (askOK T tw ac dd dy sh && pIn 0 2 w) A) ln ab be tb ib Y X ws)) 0 0 (zA (gz g)) := by
  refine z_start (by decide +kernel) rfl (Nat.le_of_ble_eq_true rfl) ?_
  intro p e s m args below meth c ls hE hr hnm hB hl
  have hl : lv_has ls 10 [(0, .ref x9), (1, .int tw), (2, .int ac), (3, .int dd), (4, .int dy), (5, .int sh), (6, .int w)] := hl
  revert hB
  generalize s.heap = H
  generalize ([] : List Loc) = locs
  intro hB
  have hT6 := hn.T6
  have hC8 := hn.C8
  have hV8 := hn.V8
  have hU8 := hn.U8
  refine lv_aload_n hE.x hE.b dX8_nearest_0 rfl (lv_at hl 0 rfl) ?_
  refine lv_iload_n hE.x hE.b dX8_nearest_1 rfl (lv_at hl 1 rfl) ?_
  refine lv_iload_n hE.x hE.b dX8_nearest_2 rfl (lv_at hl 2 rfl) ?_
  refine lv_iload_n hE.x hE.b dX8_nearest_3 rfl (lv_at hl 3 rfl) ?_
  refine lv_iload hE.x hE.b dX8_nearest_4 (lv_at hl 4 rfl) ?_
  refine lv_iload hE.x hE.b dX8_nearest_6 (lv_at hl 5 rfl) ?_
  refine z_qi hB (z_cV hE hB (c_X8_isAsked l g x9 d rr im tx (nI ln) ab be (A 3 0) (A 3 1) (A 3 2) tb ib da T C U V rd ro lw pl pc gv aw nt tw ac dd dy sh (Y ++ X) (by omega)) q3_2 kX8_isAsked ⟨rfl, rfl⟩ ⟨Nat.le_of_ble_eq_true rfl, Nat.le_of_ble_eq_true rfl⟩ 0 rfl rfl rfl hl.1 rfl (Nat.le_of_ble_eq_true rfl) dX8_nearest_8 ⟨Nat.le_of_ble_eq_true rfl, Nat.le_of_ble_eq_true rfl⟩) (fun r_1 w_2 H locs hw hB => ?_)
  obtain ⟨hr9, hw9⟩ := hw
  have hr9 := hr9.symm
  subst hr9
  have hw9 := hw9.symm
  subst hw9
  refine z_bf (b := (askOK T tw ac dd dy sh)) (tgt := 24) hE dX8_nearest_11 (by decide) (fun c_3 => ?_) (fun c_3 => ?_)
  · refine lv_aload_n hE.x hE.b dX8_nearest_24 rfl (lv_at hl 0 rfl) ?_
    refine lv_bipush (v := (-2)) hE.x hE.b dX8_nearest_25 rfl ?_
    refine z_qi hB (z_cV hE hB (c_X8_bad l g x9 d rr im tx (nI ln) ab be (A 3 0) (A 3 1) (A 3 2) tb ib (-2) (lW g d da (nI T) (nI C) (nI U) (nI V) rd ro lw pl pc gv aw nt ++ (Y ++ X))) q1_126 kX8_bad ⟨rfl, rfl⟩ ⟨Nat.le_of_ble_eq_true rfl, Nat.le_of_ble_eq_true rfl⟩ 0 rfl rfl rfl hl.1 rfl (Nat.le_of_ble_eq_true rfl) dX8_nearest_27 ⟨Nat.le_of_ble_eq_true rfl, Nat.le_of_ble_eq_true rfl⟩) (fun r_4 w_5 H locs hw hB => ?_)
    obtain ⟨hr9, hw9⟩ := hw
    have hr9 := hr9.symm
    subst hr9
    have hw9 := hw9.symm
    subst hw9
    exact z_iret (v := (-2)) (ws := xW g x9 d rr im tx (nI ln) ab be ((A 3 0) + nI 1) (A 3 1) (A 3 2) tb ib ++ (lW g d da (nI T) (nI C) (nI U) (nI V) rd ro lw pl pc gv aw nt ++ (Y ++ X))) hE hB hr (⟨(by unfold nearestR; rw [if_neg (by rw [(show (askOK T tw ac dd dy sh && pIn 0 2 w) = false by unfold pIn; simp [c_3])]; decide)]), lS_i (A1 := bump 0 A) T C U V rd ro lw pl pc gv aw nt Y (chk_f (show (askOK T tw ac dd dy sh && pIn 0 2 w) = false by unfold pIn; simp [c_3])) rfl hn hrel (fun _ h => h)⟩) dX8_nearest_30
  · refine lv_iload hE.x hE.b dX8_nearest_14 (lv_at hl 6 rfl) ?_
    refine lv_iconst (v := nI 0) hE.x hE.b dX8_nearest_16 rfl ?_
    refine lv_iconst (v := nI 2) hE.x hE.b dX8_nearest_17 rfl ?_
    refine z_qi hB (z_cS hE hB (c_X8_within l g w (nI 0) (nI 2) w.toInt (0 : Int) (2 : Int) (xW g x9 d rr im tx (nI ln) ab be (A 3 0) (A 3 1) (A 3 2) tb ib ++ (lW g d da (nI T) (nI C) (nI U) (nI V) rd ro lw pl pc gv aw nt ++ (Y ++ X))) rfl rfl rfl) q1_123 kX8_within ⟨rfl, rfl⟩ ⟨Nat.le_of_ble_eq_true rfl, Nat.le_of_ble_eq_true rfl⟩ rfl hl.1 rfl (Nat.le_of_ble_eq_true rfl) dX8_nearest_18 ⟨Nat.le_of_ble_eq_true rfl, Nat.le_of_ble_eq_true rfl⟩) (fun r_6 w_7 H locs hw hB => ?_)
    obtain ⟨hr9, hw9⟩ := hw
    have hr9 := hr9.symm
    subst hr9
    have hw9 := hw9.symm
    subst hw9
    refine z_bt (b := (inZ (0 : Int) (2 : Int) w.toInt)) (tgt := 31) hE dX8_nearest_21 (by decide) (fun c_8 => ?_) (fun c_8 => ?_)
    · obtain ⟨t, a1, d1, y1, z1, ht, ha1, hd1, hy1, hz1, rfl, rfl, rfl, rfl, rfl⟩ := ask_i c_3 hT6
      refine lv_iload hE.x hE.b dX8_nearest_31 (lv_at hl 4 rfl) ?_
      refine lv_iload hE.x hE.b dX8_nearest_33 (lv_at hl 5 rfl) ?_
      refine z_qi hB (z_cS hE hB (c_X8_asker l g y1 z1 (xW g x9 d rr im tx (nI ln) ab be (A 3 0) (A 3 1) (A 3 2) tb ib ++ (lW g d da (nI T) (nI C) (nI U) (nI V) rd ro lw pl pc gv aw nt ++ (Y ++ X)))) q3_6 kX8_asker ⟨rfl, rfl⟩ ⟨Nat.le_of_ble_eq_true rfl, Nat.le_of_ble_eq_true rfl⟩ rfl hl.1 rfl (Nat.le_of_ble_eq_true rfl) dX8_nearest_35 ⟨Nat.le_of_ble_eq_true rfl, Nat.le_of_ble_eq_true rfl⟩) (fun r_9 w_10 H locs hw hB => ?_)
      obtain ⟨hr9, hw9⟩ := hw
      have hr9 := hr9.symm
      subst hr9
      have hw9 := hw9.symm
      subst hw9
      refine lv_istore (lv' := [(7, .int (nI (2 * y1 + z1))), (0, .ref x9), (1, .int (nI t)), (2, .int (nI a1)), (3, .int (nI d1)), (4, .int (nI y1)), (5, .int (nI z1)), (6, .int w)]) hE.x hE.b dX8_nearest_38 hl (by decide) rfl (fun ls hl => ?_)
      refine lv_aload_n hE.x hE.b dX8_nearest_40 rfl (lv_at hl 1 rfl) ?_
      refine z_get (v := .ref d) hE hB inX8 0 rfl rfl 0 (by decide) q1_79 (fun _ h9 => h9) rfl dX8_nearest_41 ?_
      refine lv_iload_n hE.x hE.b dX8_nearest_44 rfl (lv_at hl 2 rfl) ?_
      have hB := zB_perm hB (List.perm_append_comm_assoc _ _ _)
      refine z_qv hB (z_cV hE hB (c_X4_measure l g d da T C U V rd ro lw pl pc gv aw nt t (A 0) Y (xW g x9 d rr im tx (nI ln) ab be (A 3 0) (A 3 1) (A 3 2) tb ib ++ (Y ++ X)) hn hrel (fun _ h => List.mem_append_right _ (List.mem_append_left _ h)) (by omega)) q2_229 kX4_measure ⟨rfl, rfl⟩ ⟨Nat.le_of_ble_eq_true rfl, Nat.le_of_ble_eq_true rfl⟩ 0 rfl rfl rfl hl.1 rfl (Nat.le_of_ble_eq_true rfl) dX8_nearest_45 ⟨Nat.le_of_ble_eq_true rfl, Nat.le_of_ble_eq_true rfl⟩) (fun w_12 H locs hw hB => ?_)
      obtain ⟨f9_13, hw9, hf_14⟩ := hw
      have hw9 := hw9.symm
      subst hw9
      have hfw := hf_14
      refine lv_iload_n hE.x hE.b dX8_nearest_48 rfl (lv_at hl 4 rfl) ?_
      refine lv_istore (lv' := [(8, .int (nI d1)), (7, .int (nI (2 * y1 + z1))), (0, .ref x9), (1, .int (nI t)), (2, .int (nI a1)), (3, .int (nI d1)), (4, .int (nI y1)), (5, .int (nI z1)), (6, .int w)]) hE.x hE.b dX8_nearest_49 hl (by decide) rfl (fun ls hl => ?_)
      have k51 : ∀ (fu : Nat) (day : Nat) (H : Heap) (locs : List Loc) (ls : Array Slot), 60 - day < fu → (d1 ≤ day) → (day ≤ 60) → (nrS (nrP (A 0) T C t (nI a1) d1 (nI y1) (nI z1)) (60 - d1) d1 = nrS (nrP (A 0) T C t (nI a1) d1 (nI y1) (nI z1)) (60 - day) day) → zB g s (lW g d da (nI T) (nI C) (nI U) (nI V) rd ro lw pl pc gv f9_13 nt ++ (xW g x9 d rr im tx (nI ln) ab be (A 3 0) (A 3 1) (A 3 2) tb ib ++ (Y ++ X))) H locs → lv_has ls 10 [(8, .int (nI day)), (7, .int (nI (2 * y1 + z1))), (0, .ref x9), (1, .int (nI t)), (2, .int (nI a1)), (3, .int (nI d1)), (4, .int (nI y1)), (5, .int (nI z1)), (6, .int w)] → W p l e { frames := 5, cells := 0, slots := 0, locals := 118 } s m args below meth c H locs 0 0 (MQ below (zQi g (fun r ws => r = (nearestR (A 0) T C (nI t) (nI a1) (nI d1) (nI y1) (nI z1) w) ∧ lS g x9 d da rr im tx (chk (askOK T (nI t) (nI a1) (nI d1) (nI y1) (nI z1) && pIn 0 2 w) A) ln ab be tb ib Y X ws)) args s 0 0 (zA (gz g))) (F0 m 51 ls []) := by
        intro fu
        induction fu with
        | zero => intro day H locs ls hfu hd1 hdy hnr hB hl; exact absurd hfu (Nat.not_lt_zero _)
        | succ fu ih51 =>
          intro day H locs ls hfu hd1 hdy hnr hB hl
          refine lv_iload hE.x hE.b dX8_nearest_51 (lv_at hl 0 rfl) ?_
          refine lv_bipush (v := (nI 60)) hE.x hE.b dX8_nearest_53 rfl ?_
          refine z_ge (tgt := 120) (X := ((day : Nat) : Int)) (Y := (60 : Int)) hE dX8_nearest_55 (by decide) (nI_toInt (n := day) (by omega)) rfl (fun c_15 => ?_) (fun c_15 => ?_)
          · refine lv_iconst (v := (-1)) hE.x hE.b dX8_nearest_120 rfl ?_
            have hB := zB_perm hB (List.perm_append_comm_assoc _ _ _)
            exact z_iret (v := (-1)) (ws := xW g x9 d rr im tx (nI ln) ab be (A 3 0) (A 3 1) (A 3 2) tb ib ++ (lW g d da (nI T) (nI C) (nI U) (nI V) rd ro lw pl pc gv f9_13 nt ++ (Y ++ X))) hE hB hr (⟨(by unfold nearestR; rw [if_pos (show (askOK T (nI t) (nI a1) (nI d1) (nI y1) (nI z1) && pIn 0 2 w) = true by unfold pIn; simp [c_3, c_8]), rc_i (show t < 1000 by omega), rc_i (show d1 < 1000 by omega), hnr, show 60 - day = 0 by omega]; rfl), lS_i (A1 := A) T C U V rd ro lw pl pc gv f9_13 nt Y (chk_t (show (askOK T (nI t) (nI a1) (nI d1) (nI y1) (nI z1) && pIn 0 2 w) = true by unfold pIn; simp [c_3, c_8])) rfl hn hrel (fun _ h => h)⟩) dX8_nearest_121
          · refine lv_aload_n hE.x hE.b dX8_nearest_58 rfl (lv_at hl 2 rfl) ?_
            refine z_get (v := .ref d) hE hB inX8 9 rfl rfl 0 (by decide) q1_79 (fun _ h9 => h9) rfl dX8_nearest_59 ?_
            refine lv_iload_n hE.x hE.b dX8_nearest_62 rfl (lv_at hl 4 rfl) ?_
            refine lv_iload hE.x hE.b dX8_nearest_63 (lv_at hl 0 rfl) ?_
            refine lv_iload hE.x hE.b dX8_nearest_65 (lv_at hl 1 rfl) ?_
            refine lv_iload hE.x hE.b dX8_nearest_67 (lv_at hl 0 rfl) ?_
            refine lv_iload_n hE.x hE.b dX8_nearest_69 rfl (lv_at hl 5 rfl) ?_
            refine z_isubN hE (by omega) dX8_nearest_70 ?_
            refine z_qi hB (z_cV hE hB (c_X4_nearestThatAllows l g d da T C U V rd ro lw pl pc gv f9_13 nt t (nI a1) (nI day) (2 * y1 + z1) (day - d1) (A 0) Y (xW g x9 d rr im tx (nI ln) ab be (A 3 0) (A 3 1) (A 3 2) tb ib ++ (Y ++ X)) hn hrel (fun _ h => List.mem_append_right _ (List.mem_append_left _ h)) (by omega) (by omega) (by omega) hfw) q3_76 kX4_nearestThatAllows ⟨rfl, rfl⟩ ⟨Nat.le_of_ble_eq_true rfl, Nat.le_of_ble_eq_true rfl⟩ 0 rfl rfl rfl hl.1 rfl (Nat.le_of_ble_eq_true rfl) dX8_nearest_71 ⟨Nat.le_of_ble_eq_true rfl, Nat.le_of_ble_eq_true rfl⟩) (fun r_16 w_17 H locs hw hB => ?_)
            obtain ⟨hr9, hw9⟩ := hw
            have hr9 := hr9.symm
            subst hr9
            have hw9 := hw9.symm
            subst hw9
            refine z_top (y := (oI ((nrP (A 0) T C t (nI a1) d1 (nI y1) (nI z1)) day))) (by rw [show (2 * y1 + z1) / 2 = y1 by omega, show (2 * y1 + z1) % 2 = z1 by omega]; rfl) ?_
            refine lv_istore (lv' := [(9, .int (oI ((nrP (A 0) T C t (nI a1) d1 (nI y1) (nI z1)) day))), (8, .int (nI day)), (7, .int (nI (2 * y1 + z1))), (0, .ref x9), (1, .int (nI t)), (2, .int (nI a1)), (3, .int (nI d1)), (4, .int (nI y1)), (5, .int (nI z1)), (6, .int w)]) hE.x hE.b dX8_nearest_74 hl (by decide) rfl (fun ls hl => ?_)
            refine lv_iload hE.x hE.b dX8_nearest_76 (lv_at hl 0 rfl) ?_
            refine lv_iconst (v := (-1)) hE.x hE.b dX8_nearest_78 rfl ?_
            refine lv_icmp_eq (tgt := 114) hE.x hE.b dX8_nearest_79 (by decide) (fun c_18 => ?_) (fun c_18 => ?_)
            · refine lv_iinc (v := (nI (day + 1))) (lv' := [(8, .int (nI (day + 1))), (9, .int (oI ((nrP (A 0) T C t (nI a1) d1 (nI y1) (nI z1)) day))), (7, .int (nI (2 * y1 + z1))), (0, .ref x9), (1, .int (nI t)), (2, .int (nI a1)), (3, .int (nI d1)), (4, .int (nI y1)), (5, .int (nI z1)), (6, .int w)]) hE.x hE.b dX8_nearest_114 hl (k := 1) rfl (nI_add _ _) (by decide) rfl (fun ls hl => ?_)
              refine lv_goto (tgt := 51) hE.x hE.b dX8_nearest_117 (by decide) ?_
              exact ih51 (day + 1) _ _ _ (by omega) (by omega) (by omega) (hnr.trans (nrS_no (by omega) (oI_none c_18 (fun q hq => by have := nrT_lt (show nrT _ _ _ _ = some q from hq); omega)))) hB (lv_sub hl [0, 2, 3, 4, 5, 6, 7, 8, 9] rfl)
            · obtain ⟨q, hq⟩ := oI_some c_18
              have hq9 := nrT_lt (show nrT _ _ _ _ = some q from hq)
              have hfq := fC_D hn (fr := t) (by omega) q
              rw [hq] at hl
              have hl : lv_has ls 10 [(9, .int (nI q)), (8, .int (nI day)), (7, .int (nI (2 * y1 + z1))), (0, .ref x9), (1, .int (nI t)), (2, .int (nI a1)), (3, .int (nI d1)), (4, .int (nI y1)), (5, .int (nI z1)), (6, .int w)] := hl
              refine lv_iload hE.x hE.b dX8_nearest_82 (lv_at hl 9 rfl) ?_
              refine lv_if_ne (tgt := 92) hE.x hE.b dX8_nearest_84 (by decide) (fun c_19 => ?_) (fun c_19 => ?_)
              · refine lv_iload hE.x hE.b dX8_nearest_92 (lv_at hl 9 rfl) ?_
                refine lv_iconst (v := nI 1) hE.x hE.b dX8_nearest_94 rfl ?_
                refine lv_icmp_ne (tgt := 103) hE.x hE.b dX8_nearest_95 (by decide) (fun c_20 => ?_) (fun c_20 => ?_)
                · refine lv_aload_n hE.x hE.b dX8_nearest_103 rfl (lv_at hl 3 rfl) ?_
                  refine z_get (v := .ref d) hE hB inX8 9 rfl rfl 0 (by decide) q1_79 (fun _ h9 => h9) rfl dX8_nearest_104 ?_
                  refine z_get (v := .ref (da 6)) hE hB inX4 0 rfl rfl 10 (by decide) q1_50 (fun _ h9 => h9) rfl dX8_nearest_107 ?_
                  refine lv_iload hE.x hE.b dX8_nearest_110 (lv_at hl 0 rfl) ?_
                  refine z_iald (k := q) (f := f9_13) hE hB 7 rfl (by omega) (by decide) dX8_nearest_112 ?_
                  refine z_top (y := (nI (fC (A 0) T t q))) (hfw q (by omega)) ?_
                  have hB := zB_perm hB (List.perm_append_comm_assoc _ _ _)
                  exact z_iret (v := (nI (fC (A 0) T t q))) (ws := xW g x9 d rr im tx (nI ln) ab be (A 3 0) (A 3 1) (A 3 2) tb ib ++ (lW g d da (nI T) (nI C) (nI U) (nI V) rd ro lw pl pc gv f9_13 nt ++ (Y ++ X))) hE hB hr (⟨(by unfold nearestR; rw [if_pos (show (askOK T (nI t) (nI a1) (nI d1) (nI y1) (nI z1) && pIn 0 2 w) = true by unfold pIn; simp [c_3, c_8]), rc_i (show t < 1000 by omega), rc_i (show d1 < 1000 by omega), hnr, nrS_yes (by omega) hq]; exact ((if_neg c_19).trans ((if_neg c_20).trans (by rw [show fD (A 0) T t q = fC (A 0) T t q by omega]))).symm), lS_i (A1 := A) T C U V rd ro lw pl pc gv f9_13 nt Y (chk_t (show (askOK T (nI t) (nI a1) (nI d1) (nI y1) (nI z1) && pIn 0 2 w) = true by unfold pIn; simp [c_3, c_8])) rfl hn hrel (fun _ h => h)⟩) dX8_nearest_113
                · refine lv_iload hE.x hE.b dX8_nearest_98 (lv_at hl 0 rfl) ?_
                  refine lv_goto (tgt := 113) hE.x hE.b dX8_nearest_100 (by decide) ?_
                  have hB := zB_perm hB (List.perm_append_comm_assoc _ _ _)
                  exact z_iret (v := (nI q)) (ws := xW g x9 d rr im tx (nI ln) ab be (A 3 0) (A 3 1) (A 3 2) tb ib ++ (lW g d da (nI T) (nI C) (nI U) (nI V) rd ro lw pl pc gv f9_13 nt ++ (Y ++ X))) hE hB hr (⟨(by unfold nearestR; rw [if_pos (show (askOK T (nI t) (nI a1) (nI d1) (nI y1) (nI z1) && pIn 0 2 w) = true by unfold pIn; simp [c_3, c_8]), rc_i (show t < 1000 by omega), rc_i (show d1 < 1000 by omega), hnr, nrS_yes (by omega) hq]; exact ((if_neg c_19).trans (if_pos c_20)).symm), lS_i (A1 := A) T C U V rd ro lw pl pc gv f9_13 nt Y (chk_t (show (askOK T (nI t) (nI a1) (nI d1) (nI y1) (nI z1) && pIn 0 2 w) = true by unfold pIn; simp [c_3, c_8])) rfl hn hrel (fun _ h => h)⟩) dX8_nearest_113
              · refine lv_iload hE.x hE.b dX8_nearest_87 (lv_at hl 1 rfl) ?_
                refine lv_goto (tgt := 113) hE.x hE.b dX8_nearest_89 (by decide) ?_
                have hB := zB_perm hB (List.perm_append_comm_assoc _ _ _)
                exact z_iret (v := (nI day)) (ws := xW g x9 d rr im tx (nI ln) ab be (A 3 0) (A 3 1) (A 3 2) tb ib ++ (lW g d da (nI T) (nI C) (nI U) (nI V) rd ro lw pl pc gv f9_13 nt ++ (Y ++ X))) hE hB hr (⟨(by unfold nearestR; rw [if_pos (show (askOK T (nI t) (nI a1) (nI d1) (nI y1) (nI z1) && pIn 0 2 w) = true by unfold pIn; simp [c_3, c_8]), rc_i (show t < 1000 by omega), rc_i (show d1 < 1000 by omega), hnr, nrS_yes (by omega) hq]; exact (if_pos c_19).symm), lS_i (A1 := A) T C U V rd ro lw pl pc gv f9_13 nt Y (chk_t (show (askOK T (nI t) (nI a1) (nI d1) (nI y1) (nI z1) && pIn 0 2 w) = true by unfold pIn; simp [c_3, c_8])) rfl hn hrel (fun _ h => h)⟩) dX8_nearest_113
      exact k51 (60 - d1 + 1) d1 _ _ _ (Nat.lt_succ_self _) (by omega) (by omega) rfl hB hl
    · refine lv_aload_n hE.x hE.b dX8_nearest_24 rfl (lv_at hl 0 rfl) ?_
      refine lv_bipush (v := (-2)) hE.x hE.b dX8_nearest_25 rfl ?_
      refine z_qi hB (z_cV hE hB (c_X8_bad l g x9 d rr im tx (nI ln) ab be (A 3 0) (A 3 1) (A 3 2) tb ib (-2) (lW g d da (nI T) (nI C) (nI U) (nI V) rd ro lw pl pc gv aw nt ++ (Y ++ X))) q1_126 kX8_bad ⟨rfl, rfl⟩ ⟨Nat.le_of_ble_eq_true rfl, Nat.le_of_ble_eq_true rfl⟩ 0 rfl rfl rfl hl.1 rfl (Nat.le_of_ble_eq_true rfl) dX8_nearest_27 ⟨Nat.le_of_ble_eq_true rfl, Nat.le_of_ble_eq_true rfl⟩) (fun r_21 w_22 H locs hw hB => ?_)
      obtain ⟨hr9, hw9⟩ := hw
      have hr9 := hr9.symm
      subst hr9
      have hw9 := hw9.symm
      subst hw9
      exact z_iret (v := (-2)) (ws := xW g x9 d rr im tx (nI ln) ab be ((A 3 0) + nI 1) (A 3 1) (A 3 2) tb ib ++ (lW g d da (nI T) (nI C) (nI U) (nI V) rd ro lw pl pc gv aw nt ++ (Y ++ X))) hE hB hr (⟨(by unfold nearestR; rw [if_neg (by rw [(show (askOK T tw ac dd dy sh && pIn 0 2 w) = false by unfold pIn; simp [c_3, c_8])]; decide)]), lS_i (A1 := bump 0 A) T C U V rd ro lw pl pc gv aw nt Y (chk_f (show (askOK T tw ac dd dy sh && pIn 0 2 w) = false by unfold pIn; simp [c_3, c_8])) rfl hn hrel (fun _ h => h)⟩) dX8_nearest_30

set_option maxHeartbeats 4000000 in
set_option maxRecDepth 100000 in
theorem c_X8_contradict (l : Launch) (g : zG) (x9 : Nat) (d : Nat) (rr : Nat) (im : Nat) (tx : Nat) (ab : Int32) (be : Int32) (tb : Nat → Int32) (ib : Nat → Option Nat) (da : Nat → Nat) (T : Nat) (C : Nat) (U : Nat) (V : Nat) (rd : Nat → Int32) (ro : Nat → Int32) (lw : Nat → Option Nat) (pl : Nat → Option Nat) (pc : Nat → Int32) (gv : Nat → Int32) (aw : Nat → Int32) (nt : Nat → Int32) (A : Nat → Nat → Int32) (ln : Nat) (ac : Int32) (dd : Int32) (i : Int32) (Y : va_W) (X : va_W) (hn : nOK (A 0) T C V U) (hrel : relL (A 0) T C U V rd ro lw pl pc gv Y) : Met l yX8_contradict (Cond.code yX8_contradict cX8_contradict 8 (some .int) :: TBL) { frames := 4, cells := 0, slots := 0, locals := 92 } (zPc [.ref x9, .int ac, .int dd, .int i] g (xW g x9 d rr im tx (nI ln) ab be (A 3 0) (A 3 1) (A 3 2) tb ib ++ (lW g d da (nI T) (nI C) (nI U) (nI V) rd ro lw pl pc gv aw nt ++ (Y ++ X)))) (zQi g (fun r ws => r = (contradictR (A 0) T C ac dd i) ∧ lS g x9 d da rr im tx (chk (contradictOK ac dd i) A) ln ab be tb ib Y X ws)) 0 0 (zA (gz g)) := by
  refine z_start (by decide +kernel) rfl (Nat.le_of_ble_eq_true rfl) ?_
  intro p e s m args below meth c ls hE hr hnm hB hl
  have hl : lv_has ls 8 [(0, .ref x9), (1, .int ac), (2, .int dd), (3, .int i)] := hl
  revert hB
  generalize s.heap = H
  generalize ([] : List Loc) = locs
  intro hB
  have hT6 := hn.T6
  have hC8 := hn.C8
  have hV8 := hn.V8
  have hU8 := hn.U8
  refine lv_iload_n hE.x hE.b dX8_contradict_0 rfl (lv_at hl 1 rfl) ?_
  refine lv_iconst (v := nI 0) hE.x hE.b dX8_contradict_1 rfl ?_
  refine lv_iconst (v := nI 5) hE.x hE.b dX8_contradict_2 rfl ?_
  refine z_qi hB (z_cS hE hB (c_X8_within l g ac (nI 0) (nI 5) ac.toInt (0 : Int) (5 : Int) (xW g x9 d rr im tx (nI ln) ab be (A 3 0) (A 3 1) (A 3 2) tb ib ++ (lW g d da (nI T) (nI C) (nI U) (nI V) rd ro lw pl pc gv aw nt ++ (Y ++ X))) rfl rfl rfl) q1_123 kX8_within ⟨rfl, rfl⟩ ⟨Nat.le_of_ble_eq_true rfl, Nat.le_of_ble_eq_true rfl⟩ rfl hl.1 rfl (Nat.le_of_ble_eq_true rfl) dX8_contradict_3 ⟨Nat.le_of_ble_eq_true rfl, Nat.le_of_ble_eq_true rfl⟩) (fun r_1 w_2 H locs hw hB => ?_)
  obtain ⟨hr9, hw9⟩ := hw
  have hr9 := hr9.symm
  subst hr9
  have hw9 := hw9.symm
  subst hw9
  refine z_bf (b := (inZ (0 : Int) (5 : Int) ac.toInt)) (tgt := 24) hE dX8_contradict_6 (by decide) (fun c_3 => ?_) (fun c_3 => ?_)
  · refine lv_aload_n hE.x hE.b dX8_contradict_24 rfl (lv_at hl 0 rfl) ?_
    refine lv_bipush (v := (-10)) hE.x hE.b dX8_contradict_25 rfl ?_
    refine z_qi hB (z_cV hE hB (c_X8_bad l g x9 d rr im tx (nI ln) ab be (A 3 0) (A 3 1) (A 3 2) tb ib (-10) (lW g d da (nI T) (nI C) (nI U) (nI V) rd ro lw pl pc gv aw nt ++ (Y ++ X))) q1_126 kX8_bad ⟨rfl, rfl⟩ ⟨Nat.le_of_ble_eq_true rfl, Nat.le_of_ble_eq_true rfl⟩ 0 rfl rfl rfl hl.1 rfl (Nat.le_of_ble_eq_true rfl) dX8_contradict_27 ⟨Nat.le_of_ble_eq_true rfl, Nat.le_of_ble_eq_true rfl⟩) (fun r_4 w_5 H locs hw hB => ?_)
    obtain ⟨hr9, hw9⟩ := hw
    have hr9 := hr9.symm
    subst hr9
    have hw9 := hw9.symm
    subst hw9
    exact z_iret (v := (-10)) (ws := xW g x9 d rr im tx (nI ln) ab be ((A 3 0) + nI 1) (A 3 1) (A 3 2) tb ib ++ (lW g d da (nI T) (nI C) (nI U) (nI V) rd ro lw pl pc gv aw nt ++ (Y ++ X))) hE hB hr (⟨(by unfold contradictR; rw [if_neg (by rw [(show contradictOK ac dd i = false by unfold contradictOK pIn; simp [c_3])]; decide)]), lS_i (A1 := bump 0 A) T C U V rd ro lw pl pc gv aw nt Y (chk_f (show contradictOK ac dd i = false by unfold contradictOK pIn; simp [c_3])) rfl hn hrel (fun _ h => h)⟩) dX8_contradict_30
  · refine lv_iload_n hE.x hE.b dX8_contradict_9 rfl (lv_at hl 2 rfl) ?_
    refine lv_iconst (v := nI 0) hE.x hE.b dX8_contradict_10 rfl ?_
    refine lv_bipush (v := (nI 59)) hE.x hE.b dX8_contradict_11 rfl ?_
    refine z_qi hB (z_cS hE hB (c_X8_within l g dd (nI 0) (nI 59) dd.toInt (0 : Int) (59 : Int) (xW g x9 d rr im tx (nI ln) ab be (A 3 0) (A 3 1) (A 3 2) tb ib ++ (lW g d da (nI T) (nI C) (nI U) (nI V) rd ro lw pl pc gv aw nt ++ (Y ++ X))) rfl rfl rfl) q1_123 kX8_within ⟨rfl, rfl⟩ ⟨Nat.le_of_ble_eq_true rfl, Nat.le_of_ble_eq_true rfl⟩ rfl hl.1 rfl (Nat.le_of_ble_eq_true rfl) dX8_contradict_13 ⟨Nat.le_of_ble_eq_true rfl, Nat.le_of_ble_eq_true rfl⟩) (fun r_6 w_7 H locs hw hB => ?_)
    obtain ⟨hr9, hw9⟩ := hw
    have hr9 := hr9.symm
    subst hr9
    have hw9 := hw9.symm
    subst hw9
    refine z_bf (b := (inZ (0 : Int) (59 : Int) dd.toInt)) (tgt := 24) hE dX8_contradict_16 (by decide) (fun c_8 => ?_) (fun c_8 => ?_)
    · refine lv_aload_n hE.x hE.b dX8_contradict_24 rfl (lv_at hl 0 rfl) ?_
      refine lv_bipush (v := (-10)) hE.x hE.b dX8_contradict_25 rfl ?_
      refine z_qi hB (z_cV hE hB (c_X8_bad l g x9 d rr im tx (nI ln) ab be (A 3 0) (A 3 1) (A 3 2) tb ib (-10) (lW g d da (nI T) (nI C) (nI U) (nI V) rd ro lw pl pc gv aw nt ++ (Y ++ X))) q1_126 kX8_bad ⟨rfl, rfl⟩ ⟨Nat.le_of_ble_eq_true rfl, Nat.le_of_ble_eq_true rfl⟩ 0 rfl rfl rfl hl.1 rfl (Nat.le_of_ble_eq_true rfl) dX8_contradict_27 ⟨Nat.le_of_ble_eq_true rfl, Nat.le_of_ble_eq_true rfl⟩) (fun r_9 w_10 H locs hw hB => ?_)
      obtain ⟨hr9, hw9⟩ := hw
      have hr9 := hr9.symm
      subst hr9
      have hw9 := hw9.symm
      subst hw9
      exact z_iret (v := (-10)) (ws := xW g x9 d rr im tx (nI ln) ab be ((A 3 0) + nI 1) (A 3 1) (A 3 2) tb ib ++ (lW g d da (nI T) (nI C) (nI U) (nI V) rd ro lw pl pc gv aw nt ++ (Y ++ X))) hE hB hr (⟨(by unfold contradictR; rw [if_neg (by rw [(show contradictOK ac dd i = false by unfold contradictOK pIn; simp [c_3, c_8])]; decide)]), lS_i (A1 := bump 0 A) T C U V rd ro lw pl pc gv aw nt Y (chk_f (show contradictOK ac dd i = false by unfold contradictOK pIn; simp [c_3, c_8])) rfl hn hrel (fun _ h => h)⟩) dX8_contradict_30
    · refine lv_iload_n hE.x hE.b dX8_contradict_19 rfl (lv_at hl 3 rfl) ?_
      refine lv_iconst (v := (-1)) hE.x hE.b dX8_contradict_20 rfl ?_
      refine z_ge (tgt := 31) (X := i.toInt) (Y := (-1 : Int)) hE dX8_contradict_21 (by decide) rfl rfl (fun c_11 => ?_) (fun c_11 => ?_)
      · refine lv_iconst (v := nI 0) hE.x hE.b dX8_contradict_31 rfl ?_
        refine lv_istore (lv' := [(4, .int (nI 0)), (0, .ref x9), (1, .int ac), (2, .int dd), (3, .int i)]) hE.x hE.b dX8_contradict_32 hl (by decide) rfl (fun ls hl => ?_)
        refine lv_iconst (v := nI 0) hE.x hE.b dX8_contradict_34 rfl ?_
        refine lv_istore (lv' := [(5, .int (nI 0)), (4, .int (nI 0)), (0, .ref x9), (1, .int ac), (2, .int dd), (3, .int i)]) hE.x hE.b dX8_contradict_35 hl (by decide) rfl (fun ls hl => ?_)
        have k37 : ∀ (fu : Nat) (many : Nat) (x : Nat) (H : Heap) (locs : List Loc) (ls : Array Slot), T - x < fu → (x ≤ T) → (((many, (-5)) : Nat × Int32) = cdA (cdAl (A 0) C ac dd) T i x) → zB g s (xW g x9 d rr im tx (nI ln) ab be (A 3 0) (A 3 1) (A 3 2) tb ib ++ (lW g d da (nI T) (nI C) (nI U) (nI V) rd ro lw pl pc gv aw nt ++ (Y ++ X))) H locs → lv_has ls 8 [(5, .int (nI x)), (4, .int (nI many)), (0, .ref x9), (1, .int ac), (2, .int dd), (3, .int i)] → W p l e { frames := 4, cells := 0, slots := 0, locals := 92 } s m args below meth c H locs 0 0 (MQ below (zQi g (fun r ws => r = (contradictR (A 0) T C ac dd i) ∧ lS g x9 d da rr im tx (chk (contradictOK ac dd i) A) ln ab be tb ib Y X ws)) args s 0 0 (zA (gz g))) (F0 m 37 ls []) := by
          intro fu
          induction fu with
          | zero => intro many x H locs ls hfu hx hm hB hl; exact absurd hfu (Nat.not_lt_zero _)
          | succ fu ih37 =>
            intro many x H locs ls hfu hx hm hB hl
            refine lv_iload hE.x hE.b dX8_contradict_37 (lv_at hl 0 rfl) ?_
            refine lv_aload_n hE.x hE.b dX8_contradict_39 rfl (lv_at hl 2 rfl) ?_
            refine z_get (v := .ref d) hE hB inX8 0 rfl rfl 0 (by decide) q1_79 (fun _ h9 => h9) rfl dX8_contradict_40 ?_
            refine z_get (v := .int (nI T)) hE hB inX4 3 rfl rfl 0 (by decide) q1_34 (fun _ h9 => h9) rfl dX8_contradict_43 ?_
            refine z_ge (tgt := 128) (X := ((x : Nat) : Int)) (Y := ((T : Nat) : Int)) hE dX8_contradict_46 (by decide) (nI_toInt (n := x) (by omega)) (nI_toInt (n := T) (by omega)) (fun c_12 => ?_) (fun c_12 => ?_)
            · have hxT : x = T := by omega
              have hme : ((many, (-5)) : Nat × Int32) = cdA (cdAl (A 0) C ac dd) T i T := by rw [hxT] at hm; exact hm
              refine lv_iload_n hE.x hE.b dX8_contradict_128 rfl (lv_at hl 5 rfl) ?_
              refine lv_iconst (v := (-1)) hE.x hE.b dX8_contradict_129 rfl ?_
              refine lv_icmp_ne (tgt := 138) hE.x hE.b dX8_contradict_130 (by decide) (fun c_13 => ?_) (fun c_13 => ?_)
              · refine lv_bipush (v := (-5)) hE.x hE.b dX8_contradict_138 rfl ?_
                exact z_iret (v := (-5)) (ws := xW g x9 d rr im tx (nI ln) ab be (A 3 0) (A 3 1) (A 3 2) tb ib ++ (lW g d da (nI T) (nI C) (nI U) (nI V) rd ro lw pl pc gv aw nt ++ (Y ++ X))) hE hB hr (⟨(by unfold contradictR; rw [if_pos (show contradictOK ac dd i = true by unfold contradictOK pIn; simp [c_3, c_8, show -1 ≤ i.toInt by omega]), if_neg c_13, ← hme]), lS_i (A1 := A) T C U V rd ro lw pl pc gv aw nt Y (chk_t (show contradictOK ac dd i = true by unfold contradictOK pIn; simp [c_3, c_8, show -1 ≤ i.toInt by omega])) rfl hn hrel (fun _ h => h)⟩) dX8_contradict_140
              · refine lv_iload hE.x hE.b dX8_contradict_133 (lv_at hl 1 rfl) ?_
                refine lv_goto (tgt := 140) hE.x hE.b dX8_contradict_135 (by decide) ?_
                exact z_iret (v := (nI many)) (ws := xW g x9 d rr im tx (nI ln) ab be (A 3 0) (A 3 1) (A 3 2) tb ib ++ (lW g d da (nI T) (nI C) (nI U) (nI V) rd ro lw pl pc gv aw nt ++ (Y ++ X))) hE hB hr (⟨(by unfold contradictR; rw [if_pos (show contradictOK ac dd i = true by unfold contradictOK pIn; simp [c_3, c_8, show -1 ≤ i.toInt by omega]), if_pos c_13, ← hme]), lS_i (A1 := A) T C U V rd ro lw pl pc gv aw nt Y (chk_t (show contradictOK ac dd i = true by unfold contradictOK pIn; simp [c_3, c_8, show -1 ≤ i.toInt by omega])) rfl hn hrel (fun _ h => h)⟩) dX8_contradict_140
            · refine lv_aload_n hE.x hE.b dX8_contradict_49 rfl (lv_at hl 2 rfl) ?_
              refine z_get (v := .ref d) hE hB inX8 0 rfl rfl 0 (by decide) q1_79 (fun _ h9 => h9) rfl dX8_contradict_50 ?_
              refine lv_iload hE.x hE.b dX8_contradict_53 (lv_at hl 0 rfl) ?_
              refine lv_iload_n hE.x hE.b dX8_contradict_55 rfl (lv_at hl 3 rfl) ?_
              refine lv_iload_n hE.x hE.b dX8_contradict_56 rfl (lv_at hl 4 rfl) ?_
              refine lv_iconst (v := nI 0) hE.x hE.b dX8_contradict_57 rfl ?_
              have hB := zB_perm hB (List.perm_append_comm_assoc _ _ _)
              refine z_qi hB (z_cV hE hB (c_X4_forbids l g d da T C U V rd ro lw pl pc gv aw nt x ac dd 0 (A 0) Y (xW g x9 d rr im tx (nI ln) ab be (A 3 0) (A 3 1) (A 3 2) tb ib ++ (Y ++ X)) hn hrel (fun _ h => List.mem_append_right _ (List.mem_append_left _ h)) (by omega) (by omega)) q3_64 kX4_forbids ⟨rfl, rfl⟩ ⟨Nat.le_of_ble_eq_true rfl, Nat.le_of_ble_eq_true rfl⟩ 0 rfl rfl rfl hl.1 rfl (Nat.le_of_ble_eq_true rfl) dX8_contradict_58 ⟨Nat.le_of_ble_eq_true rfl, Nat.le_of_ble_eq_true rfl⟩) (fun r_14 w_15 H locs hw hB => ?_)
              obtain ⟨hr9, hw9⟩ := hw
              have hr9 := hr9.symm
              subst hr9
              have hw9 := hw9.symm
              subst hw9
              refine z_top (y := (bI (!(cdAl (A 0) C ac dd) x))) rfl ?_
              refine lv_istore (lv' := [(6, .int (bI (!(cdAl (A 0) C ac dd) x))), (5, .int (nI x)), (4, .int (nI many)), (0, .ref x9), (1, .int ac), (2, .int dd), (3, .int i)]) hE.x hE.b dX8_contradict_61 hl (by decide) rfl (fun ls hl => ?_)
              refine lv_iload hE.x hE.b dX8_contradict_63 (lv_at hl 1 rfl) ?_
              refine lv_iconst (v := nI 1) hE.x hE.b dX8_contradict_65 rfl ?_
              refine z_iaddN hE dX8_contradict_66 ?_
              refine lv_istore (lv' := [(7, .int (nI (x + 1))), (6, .int (bI (!(cdAl (A 0) C ac dd) x))), (5, .int (nI x)), (4, .int (nI many)), (0, .ref x9), (1, .int ac), (2, .int dd), (3, .int i)]) hE.x hE.b dX8_contradict_67 hl (by decide) rfl (fun ls hl => ?_)
              have k69 : ∀ (fu : Nat) (many : Nat) (k : Nat) (H : Heap) (locs : List Loc) (ls : Array Slot), T - k < fu → (k ≤ T - (x + 1)) → (((many, (-5)) : Nat × Int32) = cdB (cdAl (A 0) C ac dd) i x (cdA (cdAl (A 0) C ac dd) T i x) k) → zB g s (lW g d da (nI T) (nI C) (nI U) (nI V) rd ro lw pl pc gv aw nt ++ (xW g x9 d rr im tx (nI ln) ab be (A 3 0) (A 3 1) (A 3 2) tb ib ++ (Y ++ X))) H locs → lv_has ls 8 [(7, .int (nI (x + 1 + k))), (6, .int (bI (!(cdAl (A 0) C ac dd) x))), (5, .int (nI x)), (4, .int (nI many)), (0, .ref x9), (1, .int ac), (2, .int dd), (3, .int i)] → W p l e { frames := 4, cells := 0, slots := 0, locals := 92 } s m args below meth c H locs 0 0 (MQ below (zQi g (fun r ws => r = (contradictR (A 0) T C ac dd i) ∧ lS g x9 d da rr im tx (chk (contradictOK ac dd i) A) ln ab be tb ib Y X ws)) args s 0 0 (zA (gz g))) (F0 m 69 ls []) := by
                intro fu
                induction fu with
                | zero => intro many k H locs ls hfu hk hm hB hl; exact absurd hfu (Nat.not_lt_zero _)
                | succ fu ih69 =>
                  intro many k H locs ls hfu hk hm hB hl
                  refine lv_iload hE.x hE.b dX8_contradict_69 (lv_at hl 0 rfl) ?_
                  refine lv_aload_n hE.x hE.b dX8_contradict_71 rfl (lv_at hl 4 rfl) ?_
                  refine z_get (v := .ref d) hE hB inX8 9 rfl rfl 0 (by decide) q1_79 (fun _ h9 => h9) rfl dX8_contradict_72 ?_
                  refine z_get (v := .int (nI T)) hE hB inX4 0 rfl rfl 0 (by decide) q1_34 (fun _ h9 => h9) rfl dX8_contradict_75 ?_
                  refine z_ge (tgt := 122) (X := (((x + 1 + k) : Nat) : Int)) (Y := ((T : Nat) : Int)) hE dX8_contradict_78 (by decide) (nI_toInt (n := (x + 1 + k)) (by omega)) (nI_toInt (n := T) (by omega)) (fun c_16 => ?_) (fun c_16 => ?_)
                  · refine lv_iinc (v := (nI (x + 1))) (lv' := [(5, .int (nI (x + 1))), (7, .int (nI (x + 1 + k))), (6, .int (bI (!(cdAl (A 0) C ac dd) x))), (4, .int (nI many)), (0, .ref x9), (1, .int ac), (2, .int dd), (3, .int i)]) hE.x hE.b dX8_contradict_122 hl (k := 2) rfl (nI_add _ _) (by decide) rfl (fun ls hl => ?_)
                    refine lv_goto (tgt := 37) hE.x hE.b dX8_contradict_125 (by decide) ?_
                    have hB := zB_perm hB (List.perm_append_comm_assoc _ _ _)
                    exact ih37 many (x + 1) _ _ _ (by omega) (by omega) (by rw [show k = T - (x + 1) by omega] at hm; exact hm) hB (lv_sub hl [0, 3, 4, 5, 6, 7] rfl)
                  · refine lv_aload_n hE.x hE.b dX8_contradict_81 rfl (lv_at hl 4 rfl) ?_
                    refine z_get (v := .ref d) hE hB inX8 9 rfl rfl 0 (by decide) q1_79 (fun _ h9 => h9) rfl dX8_contradict_82 ?_
                    refine lv_iload hE.x hE.b dX8_contradict_85 (lv_at hl 0 rfl) ?_
                    refine lv_iload_n hE.x hE.b dX8_contradict_87 rfl (lv_at hl 5 rfl) ?_
                    refine lv_iload_n hE.x hE.b dX8_contradict_88 rfl (lv_at hl 6 rfl) ?_
                    refine lv_iconst (v := nI 0) hE.x hE.b dX8_contradict_89 rfl ?_
                    refine z_qi hB (z_cV hE hB (c_X4_forbids l g d da T C U V rd ro lw pl pc gv aw nt (x + 1 + k) ac dd 0 (A 0) Y (xW g x9 d rr im tx (nI ln) ab be (A 3 0) (A 3 1) (A 3 2) tb ib ++ (Y ++ X)) hn hrel (fun _ h => List.mem_append_right _ (List.mem_append_left _ h)) (by omega) (by omega)) q3_64 kX4_forbids ⟨rfl, rfl⟩ ⟨Nat.le_of_ble_eq_true rfl, Nat.le_of_ble_eq_true rfl⟩ 0 rfl rfl rfl hl.1 rfl (Nat.le_of_ble_eq_true rfl) dX8_contradict_90 ⟨Nat.le_of_ble_eq_true rfl, Nat.le_of_ble_eq_true rfl⟩) (fun r_17 w_18 H locs hw hB => ?_)
                    obtain ⟨hr9, hw9⟩ := hw
                    have hr9 := hr9.symm
                    subst hr9
                    have hw9 := hw9.symm
                    subst hw9
                    refine z_top (y := (bI (!(cdAl (A 0) C ac dd) (x + 1 + k)))) rfl ?_
                    refine lv_iload hE.x hE.b dX8_contradict_93 (lv_at hl 1 rfl) ?_
                    refine lv_icmp_eq (tgt := 116) hE.x hE.b dX8_contradict_95 (by decide) (fun c_19 => ?_) (fun c_19 => ?_)
                    · refine lv_iinc (v := (nI ((x + 1 + k) + 1))) (lv' := [(7, .int (nI ((x + 1 + k) + 1))), (6, .int (bI (!(cdAl (A 0) C ac dd) x))), (5, .int (nI x)), (4, .int (nI many)), (0, .ref x9), (1, .int ac), (2, .int dd), (3, .int i)]) hE.x hE.b dX8_contradict_116 hl (k := 0) rfl (nI_add _ _) (by decide) rfl (fun ls hl => ?_)
                      refine lv_goto (tgt := 69) hE.x hE.b dX8_contradict_119 (by decide) ?_
                      exact ih69 many (k + 1) _ _ _ (by omega) (by omega) (cdB_no hm (by have h9 := bI_inj c_19; simpa using h9.symm)) hB hl
                    · have hmb := cdA_bd hm hT6 (by omega) (by omega)
                      refine lv_iload hE.x hE.b dX8_contradict_98 (lv_at hl 3 rfl) ?_
                      refine lv_iload_n hE.x hE.b dX8_contradict_100 rfl (lv_at hl 7 rfl) ?_
                      refine lv_icmp_ne (tgt := 113) hE.x hE.b dX8_contradict_101 (by decide) (fun c_20 => ?_) (fun c_20 => ?_)
                      · refine lv_iinc (v := (nI (many + 1))) (lv' := [(4, .int (nI (many + 1))), (7, .int (nI (x + 1 + k))), (6, .int (bI (!(cdAl (A 0) C ac dd) x))), (5, .int (nI x)), (0, .ref x9), (1, .int ac), (2, .int dd), (3, .int i)]) hE.x hE.b dX8_contradict_113 hl (k := 3) rfl (nI_add _ _) (by decide) rfl (fun ls hl => ?_)
                        refine lv_iinc (v := (nI ((x + 1 + k) + 1))) (lv' := [(7, .int (nI ((x + 1 + k) + 1))), (4, .int (nI (many + 1))), (6, .int (bI (!(cdAl (A 0) C ac dd) x))), (5, .int (nI x)), (0, .ref x9), (1, .int ac), (2, .int dd), (3, .int i)]) hE.x hE.b dX8_contradict_116 hl (k := 1) rfl (nI_add _ _) (by decide) rfl (fun ls hl => ?_)
                        refine lv_goto (tgt := 69) hE.x hE.b dX8_contradict_119 (by decide) ?_
                        exact ih69 (many + 1) (k + 1) _ _ _ (by omega) (by omega) (cdB_ne hm (fun z => c_19 (by rw [z])) c_20) hB (lv_sub hl [0, 2, 3, 1, 4, 5, 6, 7] rfl)
                      · have hcf := cd_found hm (fun z => c_19 (by rw [z])) c_20 hT6 (by omega) (by omega)
                        refine lv_bipush (v := (nI 10)) hE.x hE.b dX8_contradict_104 rfl ?_
                        refine lv_iload hE.x hE.b dX8_contradict_106 (lv_at hl 2 rfl) ?_
                        refine z_imulN hE dX8_contradict_108 ?_
                        refine lv_iload hE.x hE.b dX8_contradict_109 (lv_at hl 0 rfl) ?_
                        refine z_iaddN hE dX8_contradict_111 ?_
                        have hB := zB_perm hB (List.perm_append_comm_assoc _ _ _)
                        exact z_iret (v := (nI ((10 * x) + (x + 1 + k)))) (ws := xW g x9 d rr im tx (nI ln) ab be (A 3 0) (A 3 1) (A 3 2) tb ib ++ (lW g d da (nI T) (nI C) (nI U) (nI V) rd ro lw pl pc gv aw nt ++ (Y ++ X))) hE hB hr (⟨(by unfold contradictR; rw [if_pos (show contradictOK ac dd i = true by unfold contradictOK pIn; simp [c_3, c_8, show -1 ≤ i.toInt by omega]), if_neg hcf.2, hcf.1]), lS_i (A1 := A) T C U V rd ro lw pl pc gv aw nt Y (chk_t (show contradictOK ac dd i = true by unfold contradictOK pIn; simp [c_3, c_8, show -1 ≤ i.toInt by omega])) rfl hn hrel (fun _ h => h)⟩) dX8_contradict_112
              exact k69 (T - 0 + 1) many 0 _ _ _ (Nat.lt_succ_self _) (by omega) hm hB hl
        exact k37 (T - 0 + 1) 0 0 _ _ _ (Nat.lt_succ_self _) (by omega) rfl hB hl
      · refine lv_aload_n hE.x hE.b dX8_contradict_24 rfl (lv_at hl 0 rfl) ?_
        refine lv_bipush (v := (-10)) hE.x hE.b dX8_contradict_25 rfl ?_
        refine z_qi hB (z_cV hE hB (c_X8_bad l g x9 d rr im tx (nI ln) ab be (A 3 0) (A 3 1) (A 3 2) tb ib (-10) (lW g d da (nI T) (nI C) (nI U) (nI V) rd ro lw pl pc gv aw nt ++ (Y ++ X))) q1_126 kX8_bad ⟨rfl, rfl⟩ ⟨Nat.le_of_ble_eq_true rfl, Nat.le_of_ble_eq_true rfl⟩ 0 rfl rfl rfl hl.1 rfl (Nat.le_of_ble_eq_true rfl) dX8_contradict_27 ⟨Nat.le_of_ble_eq_true rfl, Nat.le_of_ble_eq_true rfl⟩) (fun r_21 w_22 H locs hw hB => ?_)
        obtain ⟨hr9, hw9⟩ := hw
        have hr9 := hr9.symm
        subst hr9
        have hw9 := hw9.symm
        subst hw9
        exact z_iret (v := (-10)) (ws := xW g x9 d rr im tx (nI ln) ab be ((A 3 0) + nI 1) (A 3 1) (A 3 2) tb ib ++ (lW g d da (nI T) (nI C) (nI U) (nI V) rd ro lw pl pc gv aw nt ++ (Y ++ X))) hE hB hr (⟨(by unfold contradictR; rw [if_neg (by rw [(show contradictOK ac dd i = false by unfold contradictOK pIn; simp [c_3, c_8, show ¬ -1 ≤ i.toInt by omega])]; decide)]), lS_i (A1 := bump 0 A) T C U V rd ro lw pl pc gv aw nt Y (chk_f (show contradictOK ac dd i = false by unfold contradictOK pIn; simp [c_3, c_8, show ¬ -1 ≤ i.toInt by omega])) rfl hn hrel (fun _ h => h)⟩) dX8_contradict_30

set_option maxHeartbeats 4000000 in
set_option maxRecDepth 100000 in
theorem c_X8_settle (l : Launch) (g : zG) (x9 : Nat) (d : Nat) (rr : Nat) (im : Nat) (tx : Nat) (ab : Int32) (be : Int32) (tb : Nat → Int32) (ib : Nat → Option Nat) (da : Nat → Nat) (T : Nat) (C : Nat) (U : Nat) (V : Nat) (rd : Nat → Int32) (ro : Nat → Int32) (lw : Nat → Option Nat) (pl : Nat → Option Nat) (pc : Nat → Int32) (gv : Nat → Int32) (aw : Nat → Int32) (nt : Nat → Int32) (A : Nat → Nat → Int32) (ln : Nat) (ac : Int32) (dd : Int32) (Y : va_W) (X : va_W) (hn : nOK (A 0) T C V U) (hrel : relL (A 0) T C U V rd ro lw pl pc gv Y) : Met l yX8_settle (Cond.code yX8_settle cX8_settle 7 (some .int) :: TBL) { frames := 5, cells := 0, slots := 0, locals := 119 } (zPc [.ref x9, .int ac, .int dd] g (xW g x9 d rr im tx (nI ln) ab be (A 3 0) (A 3 1) (A 3 2) tb ib ++ (lW g d da (nI T) (nI C) (nI U) (nI V) rd ro lw pl pc gv aw nt ++ (Y ++ X)))) (zQi g (fun r ws => r = (settleR (A 0) T C ac dd) ∧ lS g x9 d da rr im tx (chk (pIn 0 63 ac && pIn 0 59 dd) A) ln ab be tb ib Y X ws)) 0 0 (zA (gz g)) := by
  refine z_start (by decide +kernel) rfl (Nat.le_of_ble_eq_true rfl) ?_
  intro p e s m args below meth c ls hE hr hnm hB hl
  have hl : lv_has ls 7 [(0, .ref x9), (1, .int ac), (2, .int dd)] := hl
  revert hB
  generalize s.heap = H
  generalize ([] : List Loc) = locs
  intro hB
  have hT6 := hn.T6
  have hC8 := hn.C8
  have hV8 := hn.V8
  have hU8 := hn.U8
  have hpC := pow_C hC8
  refine lv_iload_n hE.x hE.b dX8_settle_0 rfl (lv_at hl 1 rfl) ?_
  refine lv_iconst (v := nI 0) hE.x hE.b dX8_settle_1 rfl ?_
  refine lv_bipush (v := (nI 63)) hE.x hE.b dX8_settle_2 rfl ?_
  refine z_qi hB (z_cS hE hB (c_X8_within l g ac (nI 0) (nI 63) ac.toInt (0 : Int) (63 : Int) (xW g x9 d rr im tx (nI ln) ab be (A 3 0) (A 3 1) (A 3 2) tb ib ++ (lW g d da (nI T) (nI C) (nI U) (nI V) rd ro lw pl pc gv aw nt ++ (Y ++ X))) rfl rfl rfl) q1_123 kX8_within ⟨rfl, rfl⟩ ⟨Nat.le_of_ble_eq_true rfl, Nat.le_of_ble_eq_true rfl⟩ rfl hl.1 rfl (Nat.le_of_ble_eq_true rfl) dX8_settle_4 ⟨Nat.le_of_ble_eq_true rfl, Nat.le_of_ble_eq_true rfl⟩) (fun r_1 w_2 H locs hw hB => ?_)
  obtain ⟨hr9, hw9⟩ := hw
  have hr9 := hr9.symm
  subst hr9
  have hw9 := hw9.symm
  subst hw9
  refine z_bf (b := (inZ (0 : Int) (63 : Int) ac.toInt)) (tgt := 20) hE dX8_settle_7 (by decide) (fun c_3 => ?_) (fun c_3 => ?_)
  · refine lv_aload_n hE.x hE.b dX8_settle_20 rfl (lv_at hl 0 rfl) ?_
    refine lv_bipush (v := (-2)) hE.x hE.b dX8_settle_21 rfl ?_
    refine z_qi hB (z_cV hE hB (c_X8_bad l g x9 d rr im tx (nI ln) ab be (A 3 0) (A 3 1) (A 3 2) tb ib (-2) (lW g d da (nI T) (nI C) (nI U) (nI V) rd ro lw pl pc gv aw nt ++ (Y ++ X))) q1_126 kX8_bad ⟨rfl, rfl⟩ ⟨Nat.le_of_ble_eq_true rfl, Nat.le_of_ble_eq_true rfl⟩ 0 rfl rfl rfl hl.1 rfl (Nat.le_of_ble_eq_true rfl) dX8_settle_23 ⟨Nat.le_of_ble_eq_true rfl, Nat.le_of_ble_eq_true rfl⟩) (fun r_4 w_5 H locs hw hB => ?_)
    obtain ⟨hr9, hw9⟩ := hw
    have hr9 := hr9.symm
    subst hr9
    have hw9 := hw9.symm
    subst hw9
    exact z_iret (v := (-2)) (ws := xW g x9 d rr im tx (nI ln) ab be ((A 3 0) + nI 1) (A 3 1) (A 3 2) tb ib ++ (lW g d da (nI T) (nI C) (nI U) (nI V) rd ro lw pl pc gv aw nt ++ (Y ++ X))) hE hB hr (⟨(by unfold settleR; rw [if_neg (by rw [(show (pIn 0 63 ac && pIn 0 59 dd) = false by unfold pIn; simp [c_3])]; decide)]), lS_i (A1 := bump 0 A) T C U V rd ro lw pl pc gv aw nt Y (chk_f (show (pIn 0 63 ac && pIn 0 59 dd) = false by unfold pIn; simp [c_3])) rfl hn hrel (fun _ h => h)⟩) dX8_settle_26
  · refine lv_iload_n hE.x hE.b dX8_settle_10 rfl (lv_at hl 2 rfl) ?_
    refine lv_iconst (v := nI 0) hE.x hE.b dX8_settle_11 rfl ?_
    refine lv_bipush (v := (nI 59)) hE.x hE.b dX8_settle_12 rfl ?_
    refine z_qi hB (z_cS hE hB (c_X8_within l g dd (nI 0) (nI 59) dd.toInt (0 : Int) (59 : Int) (xW g x9 d rr im tx (nI ln) ab be (A 3 0) (A 3 1) (A 3 2) tb ib ++ (lW g d da (nI T) (nI C) (nI U) (nI V) rd ro lw pl pc gv aw nt ++ (Y ++ X))) rfl rfl rfl) q1_123 kX8_within ⟨rfl, rfl⟩ ⟨Nat.le_of_ble_eq_true rfl, Nat.le_of_ble_eq_true rfl⟩ rfl hl.1 rfl (Nat.le_of_ble_eq_true rfl) dX8_settle_14 ⟨Nat.le_of_ble_eq_true rfl, Nat.le_of_ble_eq_true rfl⟩) (fun r_6 w_7 H locs hw hB => ?_)
    obtain ⟨hr9, hw9⟩ := hw
    have hr9 := hr9.symm
    subst hr9
    have hw9 := hw9.symm
    subst hw9
    refine z_bt (b := (inZ (0 : Int) (59 : Int) dd.toInt)) (tgt := 27) hE dX8_settle_17 (by decide) (fun c_8 => ?_) (fun c_8 => ?_)
    · obtain ⟨an, han, rfl⟩ := pIn_nI (hi := 63) (x := ac) c_3 (by omega)
      refine lv_aload_n hE.x hE.b dX8_settle_27 rfl (lv_at hl 0 rfl) ?_
      refine z_get (v := .ref d) hE hB inX8 0 rfl rfl 0 (by decide) q1_79 (fun _ h9 => h9) rfl dX8_settle_28 ?_
      refine lv_iload_n hE.x hE.b dX8_settle_31 rfl (lv_at hl 1 rfl) ?_
      refine lv_iload_n hE.x hE.b dX8_settle_32 rfl (lv_at hl 2 rfl) ?_
      have hB := zB_perm hB (List.perm_append_comm_assoc _ _ _)
      refine z_qv hB (z_cV hE hB (c_X4_noteSpeaking l g d da T C U V rd ro lw pl pc gv aw nt an dd (A 0) Y (xW g x9 d rr im tx (nI ln) ab be (A 3 0) (A 3 1) (A 3 2) tb ib ++ (Y ++ X)) hn hrel (fun _ h => List.mem_append_right _ (List.mem_append_left _ h)) (by omega)) q3_89 kX4_noteSpeaking ⟨rfl, rfl⟩ ⟨Nat.le_of_ble_eq_true rfl, Nat.le_of_ble_eq_true rfl⟩ 0 rfl rfl rfl hl.1 rfl (Nat.le_of_ble_eq_true rfl) dX8_settle_33 ⟨Nat.le_of_ble_eq_true rfl, Nat.le_of_ble_eq_true rfl⟩) (fun w_10 H locs hw hB => ?_)
      obtain ⟨f9_11, hw9, hf_12⟩ := hw
      have hw9 := hw9.symm
      subst hw9
      refine lv_aload_n hE.x hE.b dX8_settle_36 rfl (lv_at hl 0 rfl) ?_
      refine z_get (v := .ref d) hE hB inX8 9 rfl rfl 0 (by decide) q1_79 (fun _ h9 => h9) rfl dX8_settle_37 ?_
      have hno := hf_12
      refine z_qi hB (z_cV hE hB (c_X4_allowing l g d da T C U V rd ro lw pl pc gv aw f9_11 (A 0) Y (xW g x9 d rr im tx (nI ln) ab be (A 3 0) (A 3 1) (A 3 2) tb ib ++ (Y ++ X)) hn hrel (fun _ h => List.mem_append_right _ (List.mem_append_left _ h))) q3_93 kX4_allowing ⟨rfl, rfl⟩ ⟨Nat.le_of_ble_eq_true rfl, Nat.le_of_ble_eq_true rfl⟩ 0 rfl rfl rfl hl.1 rfl (Nat.le_of_ble_eq_true rfl) dX8_settle_40 ⟨Nat.le_of_ble_eq_true rfl, Nat.le_of_ble_eq_true rfl⟩) (fun r_13 w_14 H locs hw hB => ?_)
      obtain ⟨hr9, hw9⟩ := hw
      have hr9 := hr9.symm
      subst hr9
      have hw9 := hw9.symm
      subst hw9
      refine lv_istore_n (lv' := [(3, .int (nI (rdB (fun c => alw ((A 0) (46 + 5 * c + 0))) C))), (0, .ref x9), (1, .int (nI an)), (2, .int dd)]) hE.x hE.b dX8_settle_43 rfl hl (by decide) rfl (fun ls hl => ?_)
      refine lv_iconst (v := nI 1) hE.x hE.b dX8_settle_44 rfl ?_
      refine lv_aload_n hE.x hE.b dX8_settle_45 rfl (lv_at hl 1 rfl) ?_
      refine z_get (v := .ref d) hE hB inX8 9 rfl rfl 0 (by decide) q1_79 (fun _ h9 => h9) rfl dX8_settle_46 ?_
      refine z_get (v := .int (nI C)) hE hB inX4 0 rfl rfl 1 (by decide) q1_37 (fun _ h9 => h9) rfl dX8_settle_49 ?_
      refine lv_ishl hE.x hE.b dX8_settle_52 ?_
      refine z_top (y := (nI (2 ^ C))) (shl1_9 C (by omega)) ?_
      refine lv_iconst (v := nI 1) hE.x hE.b dX8_settle_53 rfl ?_
      refine z_isubN hE (by omega) dX8_settle_54 ?_
      refine lv_istore (lv' := [(4, .int (nI ((2 ^ C) - 1))), (3, .int (nI (rdB (fun c => alw ((A 0) (46 + 5 * c + 0))) C))), (0, .ref x9), (1, .int (nI an)), (2, .int dd)]) hE.x hE.b dX8_settle_55 hl (by decide) rfl (fun ls hl => ?_)
      refine lv_iload hE.x hE.b dX8_settle_57 (lv_at hl 0 rfl) ?_
      refine lv_istore (lv' := [(5, .int (nI ((2 ^ C) - 1))), (4, .int (nI ((2 ^ C) - 1))), (3, .int (nI (rdB (fun c => alw ((A 0) (46 + 5 * c + 0))) C))), (0, .ref x9), (1, .int (nI an)), (2, .int dd)]) hE.x hE.b dX8_settle_59 hl (by decide) rfl (fun ls hl => ?_)
      refine lv_iconst (v := nI 0) hE.x hE.b dX8_settle_61 rfl ?_
      refine lv_istore (lv' := [(6, .int (nI 0)), (5, .int (nI ((2 ^ C) - 1))), (4, .int (nI ((2 ^ C) - 1))), (3, .int (nI (rdB (fun c => alw ((A 0) (46 + 5 * c + 0))) C))), (0, .ref x9), (1, .int (nI an)), (2, .int dd)]) hE.x hE.b dX8_settle_62 hl (by decide) rfl (fun ls hl => ?_)
      have k64 : ∀ (fu : Nat) (b9 : Nat) (k : Nat) (H : Heap) (locs : List Loc) (ls : Array Slot), 2 ^ C - k < fu → (k ≤ 2 ^ C - 1) → (b9 = stl (fun S => agB (acAl (A 0) C dd S) T an) (2 ^ C - 1) k) → zB g s (lW g d da (nI T) (nI C) (nI U) (nI V) rd ro lw pl pc gv aw f9_11 ++ (xW g x9 d rr im tx (nI ln) ab be (A 3 0) (A 3 1) (A 3 2) tb ib ++ (Y ++ X))) H locs → lv_has ls 7 [(6, .int (nI k)), (5, .int (nI b9)), (4, .int (nI ((2 ^ C) - 1))), (3, .int (nI (rdB (fun c => alw ((A 0) (46 + 5 * c + 0))) C))), (0, .ref x9), (1, .int (nI an)), (2, .int dd)] → W p l e { frames := 5, cells := 0, slots := 0, locals := 119 } s m args below meth c H locs 0 0 (MQ below (zQi g (fun r ws => r = (settleR (A 0) T C (nI an) dd) ∧ lS g x9 d da rr im tx (chk (pIn 0 63 (nI an) && pIn 0 59 dd) A) ln ab be tb ib Y X ws)) args s 0 0 (zA (gz g))) (F0 m 64 ls []) := by
        intro fu
        induction fu with
        | zero => intro b9 k H locs ls hfu hk hb hB hl; exact absurd hfu (Nat.not_lt_zero _)
        | succ fu ih64 =>
          intro b9 k H locs ls hfu hk hb hB hl
          refine lv_iload hE.x hE.b dX8_settle_64 (lv_at hl 0 rfl) ?_
          refine lv_iload hE.x hE.b dX8_settle_66 (lv_at hl 2 rfl) ?_
          refine z_ge (tgt := 108) (X := ((k : Nat) : Int)) (Y := ((((2 ^ C) - 1) : Nat) : Int)) hE dX8_settle_68 (by decide) (nI_toInt (n := k) (by omega)) (nI_toInt (n := ((2 ^ C) - 1)) (by omega)) (fun c_15 => ?_) (fun c_15 => ?_)
          · refine lv_iload hE.x hE.b dX8_settle_108 (lv_at hl 1 rfl) ?_
            have hB := zB_perm hB (List.perm_append_comm_assoc _ _ _)
            exact z_iret (v := (nI b9)) (ws := xW g x9 d rr im tx (nI ln) ab be (A 3 0) (A 3 1) (A 3 2) tb ib ++ (lW g d da (nI T) (nI C) (nI U) (nI V) rd ro lw pl pc gv aw f9_11 ++ (Y ++ X))) hE hB hr (⟨(by unfold settleR; rw [if_pos (show (pIn 0 63 (nI an) && pIn 0 59 dd) = true by unfold pIn; simp [c_3, c_8]), rc_i (by omega), stl_all hC8, show 2 ^ C - 1 = k by omega]; rw [show 2 ^ C - 1 = k by omega] at hb; rw [hb]), lS_i (A1 := A) T C U V rd ro lw pl pc gv aw f9_11 Y (chk_t (show (pIn 0 63 (nI an) && pIn 0 59 dd) = true by unfold pIn; simp [c_3, c_8])) rfl hn hrel (fun _ h => h)⟩) dX8_settle_110
          · have hbl : b9 ≤ 2 ^ C - 1 := hb ▸ stl_lt k (by omega)
            have hpk := pop_8 k
            have hpb := pop_8 b9
            refine lv_iload hE.x hE.b dX8_settle_71 (lv_at hl 0 rfl) ?_
            refine z_qi hB (z_cS hE hB (c_J6_bitCount_0f7a4 l g k (lW g d da (nI T) (nI C) (nI U) (nI V) rd ro lw pl pc gv aw f9_11 ++ (xW g x9 d rr im tx (nI ln) ab be (A 3 0) (A 3 1) (A 3 2) tb ib ++ (Y ++ X))) (by omega)) q3_58 kJ6_bitCount_0f7a4 ⟨rfl, rfl⟩ ⟨Nat.le_of_ble_eq_true rfl, Nat.le_of_ble_eq_true rfl⟩ rfl hl.1 rfl (Nat.le_of_ble_eq_true rfl) dX8_settle_73 ⟨Nat.le_of_ble_eq_true rfl, Nat.le_of_ble_eq_true rfl⟩) (fun r_16 w_17 H locs hw hB => ?_)
            obtain ⟨hr9, hw9⟩ := hw
            have hr9 := hr9.symm
            subst hr9
            have hw9 := hw9.symm
            subst hw9
            refine lv_iload hE.x hE.b dX8_settle_76 (lv_at hl 1 rfl) ?_
            refine z_qi hB (z_cS hE hB (c_J6_bitCount_0f7a4 l g b9 (lW g d da (nI T) (nI C) (nI U) (nI V) rd ro lw pl pc gv aw f9_11 ++ (xW g x9 d rr im tx (nI ln) ab be (A 3 0) (A 3 1) (A 3 2) tb ib ++ (Y ++ X))) (by omega)) q3_58 kJ6_bitCount_0f7a4 ⟨rfl, rfl⟩ ⟨Nat.le_of_ble_eq_true rfl, Nat.le_of_ble_eq_true rfl⟩ rfl hl.1 rfl (Nat.le_of_ble_eq_true rfl) dX8_settle_78 ⟨Nat.le_of_ble_eq_true rfl, Nat.le_of_ble_eq_true rfl⟩) (fun r_18 w_19 H locs hw hB => ?_)
            obtain ⟨hr9, hw9⟩ := hw
            have hr9 := hr9.symm
            subst hr9
            have hw9 := hw9.symm
            subst hw9
            refine z_ge (tgt := 102) (X := (((pop k) : Nat) : Int)) (Y := (((pop b9) : Nat) : Int)) hE dX8_settle_81 (by decide) (nI_toInt (n := (pop k)) (by omega)) (nI_toInt (n := (pop b9)) (by omega)) (fun c_20 => ?_) (fun c_20 => ?_)
            · refine lv_iinc (v := (nI (k + 1))) (lv' := [(6, .int (nI (k + 1))), (5, .int (nI b9)), (4, .int (nI ((2 ^ C) - 1))), (3, .int (nI (rdB (fun c => alw ((A 0) (46 + 5 * c + 0))) C))), (0, .ref x9), (1, .int (nI an)), (2, .int dd)]) hE.x hE.b dX8_settle_102 hl (k := 0) rfl (nI_add _ _) (by decide) rfl (fun ls hl => ?_)
              refine lv_goto (tgt := 64) hE.x hE.b dX8_settle_105 (by decide) ?_
              exact ih64 b9 (k + 1) _ _ _ (by omega) (by omega) (stl_no hb (Or.inl (by omega))) hB hl
            · refine lv_aload_n hE.x hE.b dX8_settle_84 rfl (lv_at hl 4 rfl) ?_
              refine z_get (v := .ref d) hE hB inX8 9 rfl rfl 0 (by decide) q1_79 (fun _ h9 => h9) rfl dX8_settle_85 ?_
              refine lv_iload_n hE.x hE.b dX8_settle_88 rfl (lv_at hl 5 rfl) ?_
              refine lv_iload hE.x hE.b dX8_settle_89 (lv_at hl 0 rfl) ?_
              refine lv_iload_n hE.x hE.b dX8_settle_91 rfl (lv_at hl 3 rfl) ?_
              refine z_qi hB (z_cV hE hB (c_X4_agrees l g d da T C U V rd ro lw pl pc gv aw f9_11 an k dd (A 0) Y (xW g x9 d rr im tx (nI ln) ab be (A 3 0) (A 3 1) (A 3 2) tb ib ++ (Y ++ X)) hn hrel (fun _ h => List.mem_append_right _ (List.mem_append_left _ h)) (by omega) hno) q3_94 kX4_agrees ⟨rfl, rfl⟩ ⟨Nat.le_of_ble_eq_true rfl, Nat.le_of_ble_eq_true rfl⟩ 0 rfl rfl rfl hl.1 rfl (Nat.le_of_ble_eq_true rfl) dX8_settle_92 ⟨Nat.le_of_ble_eq_true rfl, Nat.le_of_ble_eq_true rfl⟩) (fun r_21 w_22 H locs hw hB => ?_)
              obtain ⟨hr9, hw9⟩ := hw
              have hr9 := hr9.symm
              subst hr9
              have hw9 := hw9.symm
              subst hw9
              refine z_bf (b := (agB (acAl (A 0) C dd k) T an)) (tgt := 102) hE dX8_settle_95 (by decide) (fun c_23 => ?_) (fun c_23 => ?_)
              · refine lv_iinc (v := (nI (k + 1))) (lv' := [(6, .int (nI (k + 1))), (5, .int (nI b9)), (4, .int (nI ((2 ^ C) - 1))), (3, .int (nI (rdB (fun c => alw ((A 0) (46 + 5 * c + 0))) C))), (0, .ref x9), (1, .int (nI an)), (2, .int dd)]) hE.x hE.b dX8_settle_102 hl (k := 0) rfl (nI_add _ _) (by decide) rfl (fun ls hl => ?_)
                refine lv_goto (tgt := 64) hE.x hE.b dX8_settle_105 (by decide) ?_
                exact ih64 b9 (k + 1) _ _ _ (by omega) (by omega) (stl_no hb (Or.inr c_23)) hB hl
              · refine lv_iload hE.x hE.b dX8_settle_98 (lv_at hl 0 rfl) ?_
                refine lv_istore (lv' := [(5, .int (nI k)), (6, .int (nI k)), (4, .int (nI ((2 ^ C) - 1))), (3, .int (nI (rdB (fun c => alw ((A 0) (46 + 5 * c + 0))) C))), (0, .ref x9), (1, .int (nI an)), (2, .int dd)]) hE.x hE.b dX8_settle_100 hl (by decide) rfl (fun ls hl => ?_)
                refine lv_iinc (v := (nI (k + 1))) (lv' := [(6, .int (nI (k + 1))), (5, .int (nI k)), (4, .int (nI ((2 ^ C) - 1))), (3, .int (nI (rdB (fun c => alw ((A 0) (46 + 5 * c + 0))) C))), (0, .ref x9), (1, .int (nI an)), (2, .int dd)]) hE.x hE.b dX8_settle_102 hl (k := 1) rfl (nI_add _ _) (by decide) rfl (fun ls hl => ?_)
                refine lv_goto (tgt := 64) hE.x hE.b dX8_settle_105 (by decide) ?_
                exact ih64 k (k + 1) _ _ _ (by omega) (by omega) (stl_yes hb (by omega) c_23) hB hl
      exact k64 (2 ^ C - 0 + 1) ((2 ^ C) - 1) 0 _ _ _ (Nat.lt_succ_self _) (by omega) rfl hB hl
    · refine lv_aload_n hE.x hE.b dX8_settle_20 rfl (lv_at hl 0 rfl) ?_
      refine lv_bipush (v := (-2)) hE.x hE.b dX8_settle_21 rfl ?_
      refine z_qi hB (z_cV hE hB (c_X8_bad l g x9 d rr im tx (nI ln) ab be (A 3 0) (A 3 1) (A 3 2) tb ib (-2) (lW g d da (nI T) (nI C) (nI U) (nI V) rd ro lw pl pc gv aw nt ++ (Y ++ X))) q1_126 kX8_bad ⟨rfl, rfl⟩ ⟨Nat.le_of_ble_eq_true rfl, Nat.le_of_ble_eq_true rfl⟩ 0 rfl rfl rfl hl.1 rfl (Nat.le_of_ble_eq_true rfl) dX8_settle_23 ⟨Nat.le_of_ble_eq_true rfl, Nat.le_of_ble_eq_true rfl⟩) (fun r_24 w_25 H locs hw hB => ?_)
      obtain ⟨hr9, hw9⟩ := hw
      have hr9 := hr9.symm
      subst hr9
      have hw9 := hw9.symm
      subst hw9
      exact z_iret (v := (-2)) (ws := xW g x9 d rr im tx (nI ln) ab be ((A 3 0) + nI 1) (A 3 1) (A 3 2) tb ib ++ (lW g d da (nI T) (nI C) (nI U) (nI V) rd ro lw pl pc gv aw nt ++ (Y ++ X))) hE hB hr (⟨(by unfold settleR; rw [if_neg (by rw [(show (pIn 0 63 ac && pIn 0 59 dd) = false by unfold pIn; simp [c_3, c_8])]; decide)]), lS_i (A1 := bump 0 A) T C U V rd ro lw pl pc gv aw nt Y (chk_f (show (pIn 0 63 ac && pIn 0 59 dd) = false by unfold pIn; simp [c_3, c_8])) rfl hn hrel (fun _ h => h)⟩) dX8_settle_26

set_option maxHeartbeats 4000000 in
set_option maxRecDepth 100000 in
theorem c_X8_reads (l : Launch) (g : zG) (x9 : Nat) (d : Nat) (rr : Nat) (im : Nat) (tx : Nat) (ab : Int32) (be : Int32) (tb : Nat → Int32) (ib : Nat → Option Nat) (da : Nat → Nat) (T : Nat) (C : Nat) (U : Nat) (V : Nat) (rd : Nat → Int32) (ro : Nat → Int32) (lw : Nat → Option Nat) (pl : Nat → Option Nat) (pc : Nat → Int32) (gv : Nat → Int32) (aw : Nat → Int32) (nt : Nat → Int32) (A : Nat → Nat → Int32) (ln : Nat) (tw : Int32) (ac : Int32) (dd : Int32) (dy : Int32) (sh : Int32) (Y : va_W) (X : va_W) (hn : nOK (A 0) T C V U) (hrel : relL (A 0) T C U V rd ro lw pl pc gv Y) : Met l yX8_reads (Cond.code yX8_reads cX8_reads 10 (some .int) :: TBL) { frames := 3, cells := 0, slots := 0, locals := 68 } (zPc [.ref x9, .int tw, .int ac, .int dd, .int dy, .int sh] g (xW g x9 d rr im tx (nI ln) ab be (A 3 0) (A 3 1) (A 3 2) tb ib ++ (lW g d da (nI T) (nI C) (nI U) (nI V) rd ro lw pl pc gv aw nt ++ (Y ++ X)))) (zQi g (fun r ws => r = (readsR (A 0) T C tw ac dd dy sh) ∧ lS g x9 d da rr im tx (chk (askOK T tw ac dd dy sh) A) ln ab be tb ib Y X ws)) 0 0 (zA (gz g)) := by
  refine z_start (by decide +kernel) rfl (Nat.le_of_ble_eq_true rfl) ?_
  intro p e s m args below meth c ls hE hr hnm hB hl
  have hl : lv_has ls 10 [(0, .ref x9), (1, .int tw), (2, .int ac), (3, .int dd), (4, .int dy), (5, .int sh)] := hl
  revert hB
  generalize s.heap = H
  generalize ([] : List Loc) = locs
  intro hB
  have hT6 := hn.T6
  have hC8 := hn.C8
  have hV8 := hn.V8
  have hU8 := hn.U8
  refine lv_aload_n hE.x hE.b dX8_reads_0 rfl (lv_at hl 0 rfl) ?_
  refine lv_iload_n hE.x hE.b dX8_reads_1 rfl (lv_at hl 1 rfl) ?_
  refine lv_iload_n hE.x hE.b dX8_reads_2 rfl (lv_at hl 2 rfl) ?_
  refine lv_iload_n hE.x hE.b dX8_reads_3 rfl (lv_at hl 3 rfl) ?_
  refine lv_iload hE.x hE.b dX8_reads_4 (lv_at hl 4 rfl) ?_
  refine lv_iload hE.x hE.b dX8_reads_6 (lv_at hl 5 rfl) ?_
  refine z_qi hB (z_cV hE hB (c_X8_isAsked l g x9 d rr im tx (nI ln) ab be (A 3 0) (A 3 1) (A 3 2) tb ib da T C U V rd ro lw pl pc gv aw nt tw ac dd dy sh (Y ++ X) (by omega)) q3_2 kX8_isAsked ⟨rfl, rfl⟩ ⟨Nat.le_of_ble_eq_true rfl, Nat.le_of_ble_eq_true rfl⟩ 0 rfl rfl rfl hl.1 rfl (Nat.le_of_ble_eq_true rfl) dX8_reads_8 ⟨Nat.le_of_ble_eq_true rfl, Nat.le_of_ble_eq_true rfl⟩) (fun r_1 w_2 H locs hw hB => ?_)
  obtain ⟨hr9, hw9⟩ := hw
  have hr9 := hr9.symm
  subst hr9
  have hw9 := hw9.symm
  subst hw9
  refine z_bt (b := (askOK T tw ac dd dy sh)) (tgt := 21) hE dX8_reads_11 (by decide) (fun c_3 => ?_) (fun c_3 => ?_)
  · obtain ⟨t, a1, d1, y1, z1, ht, ha1, hd1, hy1, hz1, rfl, rfl, rfl, rfl, rfl⟩ := ask_i c_3 hT6
    refine lv_aload_n hE.x hE.b dX8_reads_21 rfl (lv_at hl 0 rfl) ?_
    refine z_get (v := .ref d) hE hB inX8 0 rfl rfl 0 (by decide) q1_79 (fun _ h9 => h9) rfl dX8_reads_22 ?_
    refine lv_iload_n hE.x hE.b dX8_reads_25 rfl (lv_at hl 1 rfl) ?_
    refine lv_iload_n hE.x hE.b dX8_reads_26 rfl (lv_at hl 2 rfl) ?_
    refine lv_iload_n hE.x hE.b dX8_reads_27 rfl (lv_at hl 3 rfl) ?_
    refine lv_iload hE.x hE.b dX8_reads_28 (lv_at hl 4 rfl) ?_
    refine lv_iload hE.x hE.b dX8_reads_30 (lv_at hl 5 rfl) ?_
    refine z_qi hB (z_cS hE hB (c_X8_asker l g y1 z1 (xW g x9 d rr im tx (nI ln) ab be (A 3 0) (A 3 1) (A 3 2) tb ib ++ (lW g d da (nI T) (nI C) (nI U) (nI V) rd ro lw pl pc gv aw nt ++ (Y ++ X)))) q3_6 kX8_asker ⟨rfl, rfl⟩ ⟨Nat.le_of_ble_eq_true rfl, Nat.le_of_ble_eq_true rfl⟩ rfl hl.1 rfl (Nat.le_of_ble_eq_true rfl) dX8_reads_32 ⟨Nat.le_of_ble_eq_true rfl, Nat.le_of_ble_eq_true rfl⟩) (fun r_4 w_5 H locs hw hB => ?_)
    obtain ⟨hr9, hw9⟩ := hw
    have hr9 := hr9.symm
    subst hr9
    have hw9 := hw9.symm
    subst hw9
    have hB := zB_perm hB (List.perm_append_comm_assoc _ _ _)
    refine z_qi hB (z_cV hE hB (c_X4_speaking l g d da T C U V rd ro lw pl pc gv aw nt (nI t) (nI a1) (nI d1) (2 * y1 + z1) (A 0) Y (xW g x9 d rr im tx (nI ln) ab be (A 3 0) (A 3 1) (A 3 2) tb ib ++ (Y ++ X)) hn hrel (fun _ h => List.mem_append_right _ (List.mem_append_left _ h)) (by omega)) q3_106 kX4_speaking ⟨rfl, rfl⟩ ⟨Nat.le_of_ble_eq_true rfl, Nat.le_of_ble_eq_true rfl⟩ 0 rfl rfl rfl hl.1 rfl (Nat.le_of_ble_eq_true rfl) dX8_reads_35 ⟨Nat.le_of_ble_eq_true rfl, Nat.le_of_ble_eq_true rfl⟩) (fun r_6 w_7 H locs hw hB => ?_)
    obtain ⟨hr9, hw9⟩ := hw
    have hr9 := hr9.symm
    subst hr9
    have hw9 := hw9.symm
    subst hw9
    refine z_top (y := (nI (rdB (hP (A 0) 0 (nI t) (nI a1) (nI d1) (nI y1) (nI z1)) C))) (by rw [show (2 * y1 + z1) / 2 = y1 by omega, show (2 * y1 + z1) % 2 = z1 by omega]) ?_
    refine lv_istore (lv' := [(6, .int (nI (rdB (hP (A 0) 0 (nI t) (nI a1) (nI d1) (nI y1) (nI z1)) C))), (0, .ref x9), (1, .int (nI t)), (2, .int (nI a1)), (3, .int (nI d1)), (4, .int (nI y1)), (5, .int (nI z1))]) hE.x hE.b dX8_reads_38 hl (by decide) rfl (fun ls hl => ?_)
    refine lv_aload_n hE.x hE.b dX8_reads_40 rfl (lv_at hl 1 rfl) ?_
    refine z_get (v := .ref d) hE hB inX8 9 rfl rfl 0 (by decide) q1_79 (fun _ h9 => h9) rfl dX8_reads_41 ?_
    refine z_qi hB (z_cV hE hB (c_X4_allowing l g d da T C U V rd ro lw pl pc gv aw nt (A 0) Y (xW g x9 d rr im tx (nI ln) ab be (A 3 0) (A 3 1) (A 3 2) tb ib ++ (Y ++ X)) hn hrel (fun _ h => List.mem_append_right _ (List.mem_append_left _ h))) q3_93 kX4_allowing ⟨rfl, rfl⟩ ⟨Nat.le_of_ble_eq_true rfl, Nat.le_of_ble_eq_true rfl⟩ 0 rfl rfl rfl hl.1 rfl (Nat.le_of_ble_eq_true rfl) dX8_reads_44 ⟨Nat.le_of_ble_eq_true rfl, Nat.le_of_ble_eq_true rfl⟩) (fun r_8 w_9 H locs hw hB => ?_)
    obtain ⟨hr9, hw9⟩ := hw
    have hr9 := hr9.symm
    subst hr9
    have hw9 := hw9.symm
    subst hw9
    refine lv_istore (lv' := [(7, .int (nI (rdB (fun c => alw ((A 0) (46 + 5 * c + 0))) C))), (6, .int (nI (rdB (hP (A 0) 0 (nI t) (nI a1) (nI d1) (nI y1) (nI z1)) C))), (0, .ref x9), (1, .int (nI t)), (2, .int (nI a1)), (3, .int (nI d1)), (4, .int (nI y1)), (5, .int (nI z1))]) hE.x hE.b dX8_reads_47 hl (by decide) rfl (fun ls hl => ?_)
    refine lv_iconst (v := nI 0) hE.x hE.b dX8_reads_49 rfl ?_
    refine lv_istore (lv' := [(8, .int (nI 0)), (7, .int (nI (rdB (fun c => alw ((A 0) (46 + 5 * c + 0))) C))), (6, .int (nI (rdB (hP (A 0) 0 (nI t) (nI a1) (nI d1) (nI y1) (nI z1)) C))), (0, .ref x9), (1, .int (nI t)), (2, .int (nI a1)), (3, .int (nI d1)), (4, .int (nI y1)), (5, .int (nI z1))]) hE.x hE.b dX8_reads_50 hl (by decide) rfl (fun ls hl => ?_)
    refine lv_iconst (v := nI 0) hE.x hE.b dX8_reads_52 rfl ?_
    refine lv_istore (lv' := [(9, .int (nI 0)), (8, .int (nI 0)), (7, .int (nI (rdB (fun c => alw ((A 0) (46 + 5 * c + 0))) C))), (6, .int (nI (rdB (hP (A 0) 0 (nI t) (nI a1) (nI d1) (nI y1) (nI z1)) C))), (0, .ref x9), (1, .int (nI t)), (2, .int (nI a1)), (3, .int (nI d1)), (4, .int (nI y1)), (5, .int (nI z1))]) hE.x hE.b dX8_reads_53 hl (by decide) rfl (fun ls hl => ?_)
    have k55 : ∀ (fu : Nat) (b9 : Nat) (rr9 : Nat) (H : Heap) (locs : List Loc) (ls : Array Slot), 4 - rr9 < fu → (rr9 ≤ 4) → (b9 = rdB (fun r => alO (A 0) (decP (A 0) C (nI r) (hP (A 0) 0 (nI t) (nI a1) (nI d1) (nI y1) (nI z1)))) rr9) → zB g s (lW g d da (nI T) (nI C) (nI U) (nI V) rd ro lw pl pc gv aw nt ++ (xW g x9 d rr im tx (nI ln) ab be (A 3 0) (A 3 1) (A 3 2) tb ib ++ (Y ++ X))) H locs → lv_has ls 10 [(9, .int (nI rr9)), (8, .int (nI b9)), (7, .int (nI (rdB (fun c => alw ((A 0) (46 + 5 * c + 0))) C))), (6, .int (nI (rdB (hP (A 0) 0 (nI t) (nI a1) (nI d1) (nI y1) (nI z1)) C))), (0, .ref x9), (1, .int (nI t)), (2, .int (nI a1)), (3, .int (nI d1)), (4, .int (nI y1)), (5, .int (nI z1))] → W p l e { frames := 3, cells := 0, slots := 0, locals := 68 } s m args below meth c H locs 0 0 (MQ below (zQi g (fun r ws => r = (readsR (A 0) T C (nI t) (nI a1) (nI d1) (nI y1) (nI z1)) ∧ lS g x9 d da rr im tx (chk (askOK T (nI t) (nI a1) (nI d1) (nI y1) (nI z1)) A) ln ab be tb ib Y X ws)) args s 0 0 (zA (gz g))) (F0 m 55 ls []) := by
      intro fu
      induction fu with
      | zero => intro b9 rr9 H locs ls hfu hr4 hb hB hl; exact absurd hfu (Nat.not_lt_zero _)
      | succ fu ih55 =>
        intro b9 rr9 H locs ls hfu hr4 hb hB hl
        refine lv_iload hE.x hE.b dX8_reads_55 (lv_at hl 0 rfl) ?_
        refine lv_iconst (v := nI 4) hE.x hE.b dX8_reads_57 rfl ?_
        refine z_ge (tgt := 88) (X := ((rr9 : Nat) : Int)) (Y := (4 : Int)) hE dX8_reads_58 (by decide) (nI_toInt (n := rr9) (by omega)) rfl (fun c_10 => ?_) (fun c_10 => ?_)
        · refine lv_iload hE.x hE.b dX8_reads_88 (lv_at hl 1 rfl) ?_
          have hB := zB_perm hB (List.perm_append_comm_assoc _ _ _)
          exact z_iret (v := (nI b9)) (ws := xW g x9 d rr im tx (nI ln) ab be (A 3 0) (A 3 1) (A 3 2) tb ib ++ (lW g d da (nI T) (nI C) (nI U) (nI V) rd ro lw pl pc gv aw nt ++ (Y ++ X))) hE hB hr (⟨(by unfold readsR; rw [if_pos c_3, hb, show rr9 = 4 by omega]), lS_i (A1 := A) T C U V rd ro lw pl pc gv aw nt Y (chk_t c_3) rfl hn hrel (fun _ h => h)⟩) dX8_reads_90
        · refine lv_iload hE.x hE.b dX8_reads_61 (lv_at hl 0 rfl) ?_
          refine lv_iload hE.x hE.b dX8_reads_63 (lv_at hl 3 rfl) ?_
          refine lv_iload hE.x hE.b dX8_reads_65 (lv_at hl 2 rfl) ?_
          refine z_qi hB (z_cS hE hB (c_X8_forbidden l g (nI rr9) (rdB (hP (A 0) 0 (nI t) (nI a1) (nI d1) (nI y1) (nI z1)) C) (rdB (fun c => alw ((A 0) (46 + 5 * c + 0))) C) (hP (A 0) 0 (nI t) (nI a1) (nI d1) (nI y1) (nI z1)) (fun c => alw ((A 0) (46 + 5 * c + 0))) C (lW g d da (nI T) (nI C) (nI U) (nI V) rd ro lw pl pc gv aw nt ++ (xW g x9 d rr im tx (nI ln) ab be (A 3 0) (A 3 1) (A 3 2) tb ib ++ (Y ++ X))) rfl rfl (by omega)) q3_107 kX8_forbidden ⟨rfl, rfl⟩ ⟨Nat.le_of_ble_eq_true rfl, Nat.le_of_ble_eq_true rfl⟩ rfl hl.1 rfl (Nat.le_of_ble_eq_true rfl) dX8_reads_67 ⟨Nat.le_of_ble_eq_true rfl, Nat.le_of_ble_eq_true rfl⟩) (fun r_11 w_12 H locs hw hB => ?_)
          obtain ⟨hr9, hw9⟩ := hw
          have hr9 := hr9.symm
          subst hr9
          have hw9 := hw9.symm
          subst hw9
          refine z_top (y := (bI (!alO (A 0) (decP (A 0) C (nI rr9) (hP (A 0) 0 (nI t) (nI a1) (nI d1) (nI y1) (nI z1)))))) (congrArg bI frbQ_P) ?_
          refine z_bt (b := (!alO (A 0) (decP (A 0) C (nI rr9) (hP (A 0) 0 (nI t) (nI a1) (nI d1) (nI y1) (nI z1))))) (tgt := 82) hE dX8_reads_70 (by decide) (fun c_13 => ?_) (fun c_13 => ?_)
          · refine lv_iinc (v := (nI (rr9 + 1))) (lv' := [(9, .int (nI (rr9 + 1))), (8, .int (nI b9)), (7, .int (nI (rdB (fun c => alw ((A 0) (46 + 5 * c + 0))) C))), (6, .int (nI (rdB (hP (A 0) 0 (nI t) (nI a1) (nI d1) (nI y1) (nI z1)) C))), (0, .ref x9), (1, .int (nI t)), (2, .int (nI a1)), (3, .int (nI d1)), (4, .int (nI y1)), (5, .int (nI z1))]) hE.x hE.b dX8_reads_82 hl (k := 0) rfl (nI_add _ _) (by decide) rfl (fun ls hl => ?_)
            refine lv_goto (tgt := 55) hE.x hE.b dX8_reads_85 (by decide) ?_
            exact ih55 b9 (rr9 + 1) _ _ _ (by omega) (by omega) (rdB_k hb (by show alO (A 0) (decP (A 0) C (nI rr9) (hP (A 0) 0 (nI t) (nI a1) (nI d1) (nI y1) (nI z1))) = false; simpa using c_13)) hB hl
          · refine lv_iload hE.x hE.b dX8_reads_73 (lv_at hl 1 rfl) ?_
            refine lv_iconst (v := nI 1) hE.x hE.b dX8_reads_75 rfl ?_
            refine lv_iload hE.x hE.b dX8_reads_76 (lv_at hl 0 rfl) ?_
            refine lv_ishl hE.x hE.b dX8_reads_78 ?_
            refine z_top (y := (nI (2 ^ rr9))) (shl_8 rr9 (by omega)) ?_
            refine lv_ior hE.x hE.b dX8_reads_79 ?_
            refine z_top (y := (nI (b9 ||| 2 ^ rr9))) (or_nI _ _) ?_
            refine lv_istore (lv' := [(8, .int (nI (b9 ||| 2 ^ rr9))), (9, .int (nI rr9)), (7, .int (nI (rdB (fun c => alw ((A 0) (46 + 5 * c + 0))) C))), (6, .int (nI (rdB (hP (A 0) 0 (nI t) (nI a1) (nI d1) (nI y1) (nI z1)) C))), (0, .ref x9), (1, .int (nI t)), (2, .int (nI a1)), (3, .int (nI d1)), (4, .int (nI y1)), (5, .int (nI z1))]) hE.x hE.b dX8_reads_80 hl (by decide) rfl (fun ls hl => ?_)
            refine lv_iinc (v := (nI (rr9 + 1))) (lv' := [(9, .int (nI (rr9 + 1))), (8, .int (nI (b9 ||| 2 ^ rr9))), (7, .int (nI (rdB (fun c => alw ((A 0) (46 + 5 * c + 0))) C))), (6, .int (nI (rdB (hP (A 0) 0 (nI t) (nI a1) (nI d1) (nI y1) (nI z1)) C))), (0, .ref x9), (1, .int (nI t)), (2, .int (nI a1)), (3, .int (nI d1)), (4, .int (nI y1)), (5, .int (nI z1))]) hE.x hE.b dX8_reads_82 hl (k := 1) rfl (nI_add _ _) (by decide) rfl (fun ls hl => ?_)
            refine lv_goto (tgt := 55) hE.x hE.b dX8_reads_85 (by decide) ?_
            exact ih55 (b9 ||| 2 ^ rr9) (rr9 + 1) _ _ _ (by omega) (by omega) (rdB_y hb (by show alO (A 0) (decP (A 0) C (nI rr9) (hP (A 0) 0 (nI t) (nI a1) (nI d1) (nI y1) (nI z1))) = true; simpa using c_13)) hB hl
    exact k55 (4 - 0 + 1) 0 0 _ _ _ (Nat.lt_succ_self _) (by omega) rfl hB hl
  · refine lv_aload_n hE.x hE.b dX8_reads_14 rfl (lv_at hl 0 rfl) ?_
    refine lv_bipush (v := (-2)) hE.x hE.b dX8_reads_15 rfl ?_
    refine z_qi hB (z_cV hE hB (c_X8_bad l g x9 d rr im tx (nI ln) ab be (A 3 0) (A 3 1) (A 3 2) tb ib (-2) (lW g d da (nI T) (nI C) (nI U) (nI V) rd ro lw pl pc gv aw nt ++ (Y ++ X))) q1_126 kX8_bad ⟨rfl, rfl⟩ ⟨Nat.le_of_ble_eq_true rfl, Nat.le_of_ble_eq_true rfl⟩ 0 rfl rfl rfl hl.1 rfl (Nat.le_of_ble_eq_true rfl) dX8_reads_17 ⟨Nat.le_of_ble_eq_true rfl, Nat.le_of_ble_eq_true rfl⟩) (fun r_14 w_15 H locs hw hB => ?_)
    obtain ⟨hr9, hw9⟩ := hw
    have hr9 := hr9.symm
    subst hr9
    have hw9 := hw9.symm
    subst hw9
    exact z_iret (v := (-2)) (ws := xW g x9 d rr im tx (nI ln) ab be ((A 3 0) + nI 1) (A 3 1) (A 3 2) tb ib ++ (lW g d da (nI T) (nI C) (nI U) (nI V) rd ro lw pl pc gv aw nt ++ (Y ++ X))) hE hB hr (⟨(by unfold readsR; rw [if_neg (by rw [c_3]; decide)]), lS_i (A1 := bump 0 A) T C U V rd ro lw pl pc gv aw nt Y (chk_f c_3) rfl hn hrel (fun _ h => h)⟩) dX8_reads_20

set_option maxHeartbeats 4000000 in
set_option maxRecDepth 100000 in
theorem c_X8_firstDay (l : Launch) (g : zG) (x9 : Nat) (d : Nat) (rr : Nat) (im : Nat) (tx : Nat) (lx : Int32) (ab : Int32) (be : Int32) (bd : Int32) (no : Int32) (fl : Int32) (tb : Nat → Int32) (ib : Nat → Option Nat) (da : Nat → Nat) (T : Nat) (C : Nat) (U : Nat) (V : Nat) (rd : Nat → Int32) (ro : Nat → Int32) (lw : Nat → Option Nat) (pl : Nat → Option Nat) (pc : Nat → Int32) (gv : Nat → Int32) (aw : Nat → Int32) (nt : Nat → Int32) (kq : Nat) (pq : Nat) (aq : Nat) (S : Nat) (n : Nat → Int32) (B : va_W) (X : va_W) (hn : nOK n T C V U) (hrel : relL n T C U V rd ro lw pl pc gv B) (hBX : ∀ x ∈ B, x ∈ X) (hk : kq ≤ 99) (hp : pq ≤ 99) (hac : aq < 64) : Met l yX8_firstDay (Cond.code yX8_firstDay cX8_firstDay 9 (some .int) :: TBL) { frames := 5, cells := 0, slots := 0, locals := 120 } (zPc [.ref x9, .int (nI kq), .int (nI pq), .int (nI aq), .int (nI S)] g (xW g x9 d rr im tx lx ab be bd no fl tb ib ++ (lW g d da (nI T) (nI C) (nI U) (nI V) rd ro lw pl pc gv aw nt ++ X))) (zQi g (fun r ws => r = nI (gE (giR n T C kq pq aq S)) ∧ ws = xW g x9 d rr im tx lx ab be bd no fl tb ib ++ (lW g d da (nI T) (nI C) (nI U) (nI V) rd ro lw pl pc gv aw nt ++ X))) 0 0 (zA (gz g)) := by
  refine z_start (by decide +kernel) rfl (Nat.le_of_ble_eq_true rfl) ?_
  intro p e s m args below meth c ls hE hr hnm hB hl
  have hl : lv_has ls 9 [(0, .ref x9), (1, .int (nI kq)), (2, .int (nI pq)), (3, .int (nI aq)), (4, .int (nI S))] := hl
  revert hB
  generalize s.heap = H
  generalize ([] : List Loc) = locs
  intro hB
  have hT6 := hn.T6
  have hC8 := hn.C8
  have hV8 := hn.V8
  have hU8 := hn.U8
  refine lv_iload_n hE.x hE.b dX8_firstDay_0 rfl (lv_at hl 1 rfl) ?_
  refine lv_istore (lv' := [(5, .int (nI kq)), (0, .ref x9), (1, .int (nI kq)), (2, .int (nI pq)), (3, .int (nI aq)), (4, .int (nI S))]) hE.x hE.b dX8_firstDay_1 hl (by decide) rfl (fun ls hl => ?_)
  refine lv_iload_n hE.x hE.b dX8_firstDay_3 rfl (lv_at hl 3 rfl) ?_
  refine lv_istore (lv' := [(6, .int (nI pq)), (5, .int (nI kq)), (0, .ref x9), (1, .int (nI kq)), (2, .int (nI pq)), (3, .int (nI aq)), (4, .int (nI S))]) hE.x hE.b dX8_firstDay_4 hl (by decide) rfl (fun ls hl => ?_)
  refine lv_iconst (v := nI 0) hE.x hE.b dX8_firstDay_6 rfl ?_
  refine lv_istore (lv' := [(7, .int (nI 0)), (6, .int (nI pq)), (5, .int (nI kq)), (0, .ref x9), (1, .int (nI kq)), (2, .int (nI pq)), (3, .int (nI aq)), (4, .int (nI S))]) hE.x hE.b dX8_firstDay_7 hl (by decide) rfl (fun ls hl => ?_)
  have k9 : ∀ (fu : Nat) (dy : Nat) (kI : Int32) (pI : Int32) (K : Int) (P : Int) (H : Heap) (locs : List Loc) (ls : Array Slot), 60 - dy < fu → (kI.toInt = K) → (pI.toInt = P) → (-(6 * (dy : Int)) ≤ K ∧ K ≤ 99) → (-(6 * (dy : Int)) ≤ P ∧ P ≤ 99) → (dy ≤ 60) → (giR n T C kq pq aq S = giv (prsD n T C aq S) T (60 - dy) dy K P) → zB g s (xW g x9 d rr im tx lx ab be bd no fl tb ib ++ (lW g d da (nI T) (nI C) (nI U) (nI V) rd ro lw pl pc gv aw nt ++ X)) H locs → lv_has ls 9 [(7, .int (nI dy)), (6, .int pI), (5, .int kI), (0, .ref x9), (1, .int (nI kq)), (2, .int (nI pq)), (3, .int (nI aq)), (4, .int (nI S))] → W p l e { frames := 5, cells := 0, slots := 0, locals := 120 } s m args below meth c H locs 0 0 (MQ below (zQi g (fun r ws => r = nI (gE (giR n T C kq pq aq S)) ∧ ws = xW g x9 d rr im tx lx ab be bd no fl tb ib ++ (lW g d da (nI T) (nI C) (nI U) (nI V) rd ro lw pl pc gv aw nt ++ X))) args s 0 0 (zA (gz g))) (F0 m 9 ls []) := by
    intro fu
    induction fu with
    | zero => intro dy kI pI K P H locs ls hfu hK hP hKb hPb hd hg hB hl; exact absurd hfu (Nat.not_lt_zero _)
    | succ fu ih9 =>
      intro dy kI pI K P H locs ls hfu hK hP hKb hPb hd hg hB hl
      refine lv_iload hE.x hE.b dX8_firstDay_9 (lv_at hl 0 rfl) ?_
      refine lv_bipush (v := (nI 60)) hE.x hE.b dX8_firstDay_11 rfl ?_
      refine z_ge (tgt := 71) (X := ((dy : Nat) : Int)) (Y := (60 : Int)) hE dX8_firstDay_13 (by decide) (nI_toInt (n := dy) (by omega)) rfl (fun c_1 => ?_) (fun c_1 => ?_)
      · refine lv_bipush (v := (nI 60)) hE.x hE.b dX8_firstDay_71 rfl ?_
        exact z_iret (v := (nI 60)) (ws := xW g x9 d rr im tx lx ab be bd no fl tb ib ++ (lW g d da (nI T) (nI C) (nI U) (nI V) rd ro lw pl pc gv aw nt ++ X)) hE hB hr (⟨by rw [hg, show 60 - dy = 0 by omega]; rfl, rfl⟩) dX8_firstDay_73
      · refine lv_aload_n hE.x hE.b dX8_firstDay_16 rfl (lv_at hl 3 rfl) ?_
        refine z_get (v := .ref d) hE hB inX8 0 rfl rfl 0 (by decide) q1_79 (fun _ h9 => h9) rfl dX8_firstDay_17 ?_
        refine lv_iload_n hE.x hE.b dX8_firstDay_20 rfl (lv_at hl 6 rfl) ?_
        refine lv_iload hE.x hE.b dX8_firstDay_21 (lv_at hl 0 rfl) ?_
        refine lv_iload hE.x hE.b dX8_firstDay_23 (lv_at hl 7 rfl) ?_
        have hB := zB_perm hB (List.perm_append_comm_assoc _ _ _)
        refine z_qi hB (z_cV hE hB (c_X4_townsPressing l g d da T C U V rd ro lw pl pc gv aw nt aq (nI dy) S n B (xW g x9 d rr im tx lx ab be bd no fl tb ib ++ X) hn hrel (fun x h => List.mem_append_right _ (hBX x h)) (by omega)) q3_119 kX4_townsPressing ⟨rfl, rfl⟩ ⟨Nat.le_of_ble_eq_true rfl, Nat.le_of_ble_eq_true rfl⟩ 0 rfl rfl rfl hl.1 rfl (Nat.le_of_ble_eq_true rfl) dX8_firstDay_25 ⟨Nat.le_of_ble_eq_true rfl, Nat.le_of_ble_eq_true rfl⟩) (fun r_2 w_3 H locs hw hB => ?_)
        obtain ⟨hr9, hw9⟩ := hw
        have hr9 := hr9.symm
        subst hr9
        have hw9 := hw9.symm
        subst hw9
        refine z_top (y := (nI ((prsD n T C aq S) dy))) rfl ?_
        refine lv_istore (lv' := [(8, .int (nI ((prsD n T C aq S) dy))), (7, .int (nI dy)), (6, .int pI), (5, .int kI), (0, .ref x9), (1, .int (nI kq)), (2, .int (nI pq)), (3, .int (nI aq)), (4, .int (nI S))]) hE.x hE.b dX8_firstDay_28 hl (by decide) rfl (fun ls hl => ?_)
        refine lv_iload hE.x hE.b dX8_firstDay_30 (lv_at hl 3 rfl) ?_
        refine lv_iload hE.x hE.b dX8_firstDay_32 (lv_at hl 0 rfl) ?_
        have hcn : (prsD n T C aq S) dy ≤ T := cn_le _ T
        refine lv_isub hE.x hE.b dX8_firstDay_34 ?_
        refine lv_istore (lv' := [(5, .int (kI - (nI ((prsD n T C aq S) dy)))), (8, .int (nI ((prsD n T C aq S) dy))), (7, .int (nI dy)), (6, .int pI), (0, .ref x9), (1, .int (nI kq)), (2, .int (nI pq)), (3, .int (nI aq)), (4, .int (nI S))]) hE.x hE.b dX8_firstDay_35 hl (by decide) rfl (fun ls hl => ?_)
        refine lv_iload hE.x hE.b dX8_firstDay_37 (lv_at hl 3 rfl) ?_
        refine lv_aload_n hE.x hE.b dX8_firstDay_39 rfl (lv_at hl 4 rfl) ?_
        refine z_get (v := .ref d) hE hB inX8 9 rfl rfl 0 (by decide) q1_79 (fun _ h9 => h9) rfl dX8_firstDay_40 ?_
        refine z_get (v := .int (nI T)) hE hB inX4 0 rfl rfl 0 (by decide) q1_34 (fun _ h9 => h9) rfl dX8_firstDay_43 ?_
        refine lv_iload hE.x hE.b dX8_firstDay_46 (lv_at hl 1 rfl) ?_
        refine z_isubN hE (by omega) dX8_firstDay_48 ?_
        refine lv_isub hE.x hE.b dX8_firstDay_49 ?_
        refine lv_istore (lv' := [(6, .int (pI - (nI (T - ((prsD n T C aq S) dy))))), (5, .int (kI - (nI ((prsD n T C aq S) dy)))), (8, .int (nI ((prsD n T C aq S) dy))), (7, .int (nI dy)), (0, .ref x9), (1, .int (nI kq)), (2, .int (nI pq)), (3, .int (nI aq)), (4, .int (nI S))]) hE.x hE.b dX8_firstDay_50 hl (by decide) rfl (fun ls hl => ?_)
        have hcn : (prsD n T C aq S) dy ≤ T := cn_le _ T
        have hK2 := sub_toInt (k := (prsD n T C aq S) dy) hK (by omega) (by omega) (by omega)
        have hP2 := sub_toInt (k := T - (prsD n T C aq S) dy) hP (by omega) (by omega) (by omega)
        refine lv_iload hE.x hE.b dX8_firstDay_52 (lv_at hl 1 rfl) ?_
        refine z_le0 (tgt := 62) (X := (kI - (nI ((prsD n T C aq S) dy))).toInt) hE dX8_firstDay_54 (by decide) rfl (fun c_4 => ?_) (fun c_4 => ?_)
        · refine lv_iload hE.x hE.b dX8_firstDay_62 (lv_at hl 3 rfl) ?_
          have hB := zB_perm hB (List.perm_append_comm_assoc _ _ _)
          exact z_iret (v := (nI dy)) (ws := xW g x9 d rr im tx lx ab be bd no fl tb ib ++ (lW g d da (nI T) (nI C) (nI U) (nI V) rd ro lw pl pc gv aw nt ++ X)) hE hB hr (⟨by rw [hg, giv_yes (by omega) (by omega) rfl]; rfl, rfl⟩) dX8_firstDay_64
        · refine lv_iload hE.x hE.b dX8_firstDay_57 (lv_at hl 0 rfl) ?_
          refine z_gt0 (tgt := 65) (X := (pI - (nI (T - ((prsD n T C aq S) dy)))).toInt) hE dX8_firstDay_59 (by decide) rfl (fun c_5 => ?_) (fun c_5 => ?_)
          · refine lv_iinc (v := (nI (dy + 1))) (lv' := [(7, .int (nI (dy + 1))), (6, .int (pI - (nI (T - ((prsD n T C aq S) dy))))), (5, .int (kI - (nI ((prsD n T C aq S) dy)))), (8, .int (nI ((prsD n T C aq S) dy))), (0, .ref x9), (1, .int (nI kq)), (2, .int (nI pq)), (3, .int (nI aq)), (4, .int (nI S))]) hE.x hE.b dX8_firstDay_65 hl (k := 3) rfl (nI_add _ _) (by decide) rfl (fun ls hl => ?_)
            refine lv_goto (tgt := 9) hE.x hE.b dX8_firstDay_68 (by decide) ?_
            have hB := zB_perm hB (List.perm_append_comm_assoc _ _ _)
            exact ih9 (dy + 1) (kI - (nI ((prsD n T C aq S) dy))) (pI - (nI (T - ((prsD n T C aq S) dy)))) (K - ((prsD n T C aq S) dy : Nat)) (P - (T - (prsD n T C aq S) dy : Nat)) _ _ _ (by omega) hK2 hP2 (by omega) (by omega) (by omega) (hg.trans (giv_no (by omega) (by omega))) hB (lv_sub hl [0, 1, 2, 4, 5, 6, 7, 8] rfl)
          · refine lv_iload hE.x hE.b dX8_firstDay_62 (lv_at hl 3 rfl) ?_
            have hB := zB_perm hB (List.perm_append_comm_assoc _ _ _)
            exact z_iret (v := (nI dy)) (ws := xW g x9 d rr im tx lx ab be bd no fl tb ib ++ (lW g d da (nI T) (nI C) (nI U) (nI V) rd ro lw pl pc gv aw nt ++ X)) hE hB hr (⟨by rw [hg, giv_yes (by omega) (by omega) rfl]; rfl, rfl⟩) dX8_firstDay_64
  exact k9 (60 - 0 + 1) 0 (nI kq) (nI pq) (kq : Int) (pq : Int) _ _ _ (Nat.lt_succ_self _) (nI_toInt (by omega)) (nI_toInt (by omega)) (by omega) (by omega) (by omega) rfl hB hl

set_option maxHeartbeats 4000000 in
set_option maxRecDepth 100000 in
theorem c_X8_whoGivesIn (l : Launch) (g : zG) (x9 : Nat) (d : Nat) (rr : Nat) (im : Nat) (tx : Nat) (lx : Int32) (ab : Int32) (be : Int32) (bd : Int32) (no : Int32) (fl : Int32) (tb : Nat → Int32) (ib : Nat → Option Nat) (da : Nat → Nat) (T : Nat) (C : Nat) (U : Nat) (V : Nat) (rd : Nat → Int32) (ro : Nat → Int32) (lw : Nat → Option Nat) (pl : Nat → Option Nat) (pc : Nat → Int32) (gv : Nat → Int32) (aw : Nat → Int32) (nt : Nat → Int32) (kq : Nat) (pq : Nat) (aq : Nat) (e9 : Nat) (w9 : Nat) (n : Nat → Int32) (B : va_W) (X : va_W) (hn : nOK n T C V U) (hrel : relL n T C U V rd ro lw pl pc gv B) (hBX : ∀ x ∈ B, x ∈ X) (hk : kq ≤ 99) (hp : pq ≤ 99) (hac : aq < 64) (hg : giR n T C kq pq aq 0 = some (e9, w9)) : Met l yX8_whoGivesIn (Cond.code yX8_whoGivesIn cX8_whoGivesIn 9 (some .int) :: TBL) { frames := 5, cells := 0, slots := 0, locals := 120 } (zPc [.ref x9, .int (nI kq), .int (nI pq), .int (nI aq), .int (nI e9)] g (xW g x9 d rr im tx lx ab be bd no fl tb ib ++ (lW g d da (nI T) (nI C) (nI U) (nI V) rd ro lw pl pc gv aw nt ++ X))) (zQi g (fun r ws => r = nI w9 ∧ ws = xW g x9 d rr im tx lx ab be bd no fl tb ib ++ (lW g d da (nI T) (nI C) (nI U) (nI V) rd ro lw pl pc gv aw nt ++ X))) 0 0 (zA (gz g)) := by
  refine z_start (by decide +kernel) rfl (Nat.le_of_ble_eq_true rfl) ?_
  intro p e s m args below meth c ls hE hr hnm hB hl
  have hl : lv_has ls 9 [(0, .ref x9), (1, .int (nI kq)), (2, .int (nI pq)), (3, .int (nI aq)), (4, .int (nI e9))] := hl
  revert hB
  generalize s.heap = H
  generalize ([] : List Loc) = locs
  intro hB
  have hT6 := hn.T6
  have hC8 := hn.C8
  have hV8 := hn.V8
  have hU8 := hn.U8
  have he9 := giR_lt hg
  refine lv_iload_n hE.x hE.b dX8_whoGivesIn_0 rfl (lv_at hl 1 rfl) ?_
  refine lv_istore (lv' := [(5, .int (nI kq)), (0, .ref x9), (1, .int (nI kq)), (2, .int (nI pq)), (3, .int (nI aq)), (4, .int (nI e9))]) hE.x hE.b dX8_whoGivesIn_1 hl (by decide) rfl (fun ls hl => ?_)
  refine lv_iload_n hE.x hE.b dX8_whoGivesIn_3 rfl (lv_at hl 3 rfl) ?_
  refine lv_istore (lv' := [(6, .int (nI pq)), (5, .int (nI kq)), (0, .ref x9), (1, .int (nI kq)), (2, .int (nI pq)), (3, .int (nI aq)), (4, .int (nI e9))]) hE.x hE.b dX8_whoGivesIn_4 hl (by decide) rfl (fun ls hl => ?_)
  refine lv_iconst (v := nI 0) hE.x hE.b dX8_whoGivesIn_6 rfl ?_
  refine lv_istore (lv' := [(7, .int (nI 0)), (6, .int (nI pq)), (5, .int (nI kq)), (0, .ref x9), (1, .int (nI kq)), (2, .int (nI pq)), (3, .int (nI aq)), (4, .int (nI e9))]) hE.x hE.b dX8_whoGivesIn_7 hl (by decide) rfl (fun ls hl => ?_)
  have k9 : ∀ (fu : Nat) (dy : Nat) (kI : Int32) (pI : Int32) (K : Int) (P : Int) (H : Heap) (locs : List Loc) (ls : Array Slot), 61 - dy < fu → (kI.toInt = K) → (pI.toInt = P) → (-(6 * (dy : Int)) ≤ K ∧ K ≤ 99) → (-(6 * (dy : Int)) ≤ P ∧ P ≤ 99) → (dy ≤ e9 + 1) → (dy ≤ e9 → giv (prsD n T C aq 0) T (60 - dy) dy K P = some (e9, w9)) → (dy = e9 + 1 → w9 = if 0 < K then 1 else if 0 < P then 0 else 2) → zB g s (xW g x9 d rr im tx lx ab be bd no fl tb ib ++ (lW g d da (nI T) (nI C) (nI U) (nI V) rd ro lw pl pc gv aw nt ++ X)) H locs → lv_has ls 9 [(7, .int (nI dy)), (6, .int pI), (5, .int kI), (0, .ref x9), (1, .int (nI kq)), (2, .int (nI pq)), (3, .int (nI aq)), (4, .int (nI e9))] → W p l e { frames := 5, cells := 0, slots := 0, locals := 120 } s m args below meth c H locs 0 0 (MQ below (zQi g (fun r ws => r = nI w9 ∧ ws = xW g x9 d rr im tx lx ab be bd no fl tb ib ++ (lW g d da (nI T) (nI C) (nI U) (nI V) rd ro lw pl pc gv aw nt ++ X))) args s 0 0 (zA (gz g))) (F0 m 9 ls []) := by
    intro fu
    induction fu with
    | zero => intro dy kI pI K P H locs ls hfu hK hP hKb hPb hd h1 h2 hB hl; exact absurd hfu (Nat.not_lt_zero _)
    | succ fu ih9 =>
      intro dy kI pI K P H locs ls hfu hK hP hKb hPb hd h1 h2 hB hl
      refine lv_iload hE.x hE.b dX8_whoGivesIn_9 (lv_at hl 0 rfl) ?_
      refine lv_iload hE.x hE.b dX8_whoGivesIn_11 (lv_at hl 7 rfl) ?_
      refine z_gt (tgt := 57) (X := ((dy : Nat) : Int)) (Y := ((e9 : Nat) : Int)) hE dX8_whoGivesIn_13 (by decide) (nI_toInt (n := dy) (by omega)) (nI_toInt (n := e9) (by omega)) (fun c_1 => ?_) (fun c_1 => ?_)
      · refine lv_iload hE.x hE.b dX8_whoGivesIn_57 (lv_at hl 2 rfl) ?_
        refine z_le0 (tgt := 64) (X := kI.toInt) hE dX8_whoGivesIn_59 (by decide) rfl (fun c_2 => ?_) (fun c_2 => ?_)
        · refine lv_iload hE.x hE.b dX8_whoGivesIn_64 (lv_at hl 1 rfl) ?_
          refine z_le0 (tgt := 73) (X := pI.toInt) hE dX8_whoGivesIn_66 (by decide) rfl (fun c_3 => ?_) (fun c_3 => ?_)
          · refine lv_iconst (v := nI 2) hE.x hE.b dX8_whoGivesIn_73 rfl ?_
            exact z_iret (v := (nI 2)) (ws := xW g x9 d rr im tx lx ab be bd no fl tb ib ++ (lW g d da (nI T) (nI C) (nI U) (nI V) rd ro lw pl pc gv aw nt ++ X)) hE hB hr (⟨by rw [h2 (by omega), if_neg (by omega), if_neg (by omega)], rfl⟩) dX8_whoGivesIn_74
          · refine lv_iconst (v := nI 0) hE.x hE.b dX8_whoGivesIn_69 rfl ?_
            refine lv_goto (tgt := 74) hE.x hE.b dX8_whoGivesIn_70 (by decide) ?_
            exact z_iret (v := (nI 0)) (ws := xW g x9 d rr im tx lx ab be bd no fl tb ib ++ (lW g d da (nI T) (nI C) (nI U) (nI V) rd ro lw pl pc gv aw nt ++ X)) hE hB hr (⟨by rw [h2 (by omega), if_neg (by omega), if_pos (by omega)], rfl⟩) dX8_whoGivesIn_74
        · refine lv_iconst (v := nI 1) hE.x hE.b dX8_whoGivesIn_62 rfl ?_
          exact z_iret (v := (nI 1)) (ws := xW g x9 d rr im tx lx ab be bd no fl tb ib ++ (lW g d da (nI T) (nI C) (nI U) (nI V) rd ro lw pl pc gv aw nt ++ X)) hE hB hr (⟨by rw [h2 (by omega), if_pos (by omega)], rfl⟩) dX8_whoGivesIn_63
      · refine lv_aload_n hE.x hE.b dX8_whoGivesIn_16 rfl (lv_at hl 3 rfl) ?_
        refine z_get (v := .ref d) hE hB inX8 0 rfl rfl 0 (by decide) q1_79 (fun _ h9 => h9) rfl dX8_whoGivesIn_17 ?_
        refine lv_iload_n hE.x hE.b dX8_whoGivesIn_20 rfl (lv_at hl 6 rfl) ?_
        refine lv_iload hE.x hE.b dX8_whoGivesIn_21 (lv_at hl 0 rfl) ?_
        refine lv_iconst (v := nI 0) hE.x hE.b dX8_whoGivesIn_23 rfl ?_
        have hB := zB_perm hB (List.perm_append_comm_assoc _ _ _)
        refine z_qi hB (z_cV hE hB (c_X4_townsPressing l g d da T C U V rd ro lw pl pc gv aw nt aq (nI dy) 0 n B (xW g x9 d rr im tx lx ab be bd no fl tb ib ++ X) hn hrel (fun x h => List.mem_append_right _ (hBX x h)) (by omega)) q3_119 kX4_townsPressing ⟨rfl, rfl⟩ ⟨Nat.le_of_ble_eq_true rfl, Nat.le_of_ble_eq_true rfl⟩ 0 rfl rfl rfl hl.1 rfl (Nat.le_of_ble_eq_true rfl) dX8_whoGivesIn_24 ⟨Nat.le_of_ble_eq_true rfl, Nat.le_of_ble_eq_true rfl⟩) (fun r_4 w_5 H locs hw hB => ?_)
        obtain ⟨hr9, hw9⟩ := hw
        have hr9 := hr9.symm
        subst hr9
        have hw9 := hw9.symm
        subst hw9
        refine z_top (y := (nI ((prsD n T C aq 0) dy))) rfl ?_
        refine lv_istore (lv' := [(8, .int (nI ((prsD n T C aq 0) dy))), (7, .int (nI dy)), (6, .int pI), (5, .int kI), (0, .ref x9), (1, .int (nI kq)), (2, .int (nI pq)), (3, .int (nI aq)), (4, .int (nI e9))]) hE.x hE.b dX8_whoGivesIn_27 hl (by decide) rfl (fun ls hl => ?_)
        refine lv_iload hE.x hE.b dX8_whoGivesIn_29 (lv_at hl 3 rfl) ?_
        refine lv_iload hE.x hE.b dX8_whoGivesIn_31 (lv_at hl 0 rfl) ?_
        have hcn : (prsD n T C aq 0) dy ≤ T := cn_le _ T
        refine lv_isub hE.x hE.b dX8_whoGivesIn_33 ?_
        refine lv_istore (lv' := [(5, .int (kI - (nI ((prsD n T C aq 0) dy)))), (8, .int (nI ((prsD n T C aq 0) dy))), (7, .int (nI dy)), (6, .int pI), (0, .ref x9), (1, .int (nI kq)), (2, .int (nI pq)), (3, .int (nI aq)), (4, .int (nI e9))]) hE.x hE.b dX8_whoGivesIn_34 hl (by decide) rfl (fun ls hl => ?_)
        refine lv_iload hE.x hE.b dX8_whoGivesIn_36 (lv_at hl 3 rfl) ?_
        refine lv_aload_n hE.x hE.b dX8_whoGivesIn_38 rfl (lv_at hl 4 rfl) ?_
        refine z_get (v := .ref d) hE hB inX8 9 rfl rfl 0 (by decide) q1_79 (fun _ h9 => h9) rfl dX8_whoGivesIn_39 ?_
        refine z_get (v := .int (nI T)) hE hB inX4 0 rfl rfl 0 (by decide) q1_34 (fun _ h9 => h9) rfl dX8_whoGivesIn_42 ?_
        refine lv_iload hE.x hE.b dX8_whoGivesIn_45 (lv_at hl 1 rfl) ?_
        refine z_isubN hE (by omega) dX8_whoGivesIn_47 ?_
        refine lv_isub hE.x hE.b dX8_whoGivesIn_48 ?_
        refine lv_istore (lv' := [(6, .int (pI - (nI (T - ((prsD n T C aq 0) dy))))), (5, .int (kI - (nI ((prsD n T C aq 0) dy)))), (8, .int (nI ((prsD n T C aq 0) dy))), (7, .int (nI dy)), (0, .ref x9), (1, .int (nI kq)), (2, .int (nI pq)), (3, .int (nI aq)), (4, .int (nI e9))]) hE.x hE.b dX8_whoGivesIn_49 hl (by decide) rfl (fun ls hl => ?_)
        have hcn : (prsD n T C aq 0) dy ≤ T := cn_le _ T
        have hK2 := sub_toInt (k := (prsD n T C aq 0) dy) hK (by omega) (by omega) (by omega)
        have hP2 := sub_toInt (k := T - (prsD n T C aq 0) dy) hP (by omega) (by omega) (by omega)
        have hga := giv_at (h1 (by omega)) (by omega)
        refine lv_iinc (v := (nI (dy + 1))) (lv' := [(7, .int (nI (dy + 1))), (6, .int (pI - (nI (T - ((prsD n T C aq 0) dy))))), (5, .int (kI - (nI ((prsD n T C aq 0) dy)))), (8, .int (nI ((prsD n T C aq 0) dy))), (0, .ref x9), (1, .int (nI kq)), (2, .int (nI pq)), (3, .int (nI aq)), (4, .int (nI e9))]) hE.x hE.b dX8_whoGivesIn_51 hl (k := 3) rfl (nI_add _ _) (by decide) rfl (fun ls hl => ?_)
        refine lv_goto (tgt := 9) hE.x hE.b dX8_whoGivesIn_54 (by decide) ?_
        have hB := zB_perm hB (List.perm_append_comm_assoc _ _ _)
        exact ih9 (dy + 1) (kI - (nI ((prsD n T C aq 0) dy))) (pI - (nI (T - ((prsD n T C aq 0) dy)))) (K - ((prsD n T C aq 0) dy : Nat)) (P - (T - (prsD n T C aq 0) dy : Nat)) _ _ _ (by omega) hK2 hP2 (by omega) (by omega) (by omega) (fun z => hga.1 (by omega)) (fun z => hga.2 (by omega)) hB (lv_sub hl [0, 1, 2, 4, 5, 6, 7, 8] rfl)
  exact k9 (61 - 0 + 1) 0 (nI kq) (nI pq) (kq : Int) (pq : Int) _ _ _ (Nat.lt_succ_self _) (nI_toInt (by omega)) (nI_toInt (by omega)) (by omega) (by omega) (by omega) (fun _ => hg) (fun z => absurd z (by omega)) hB hl

set_option maxHeartbeats 4000000 in
set_option maxRecDepth 100000 in
theorem c_X8_patience (l : Launch) (g : zG) (x9 : Nat) (d : Nat) (rr : Nat) (im : Nat) (tx : Nat) (ab : Int32) (be : Int32) (tb : Nat → Int32) (ib : Nat → Option Nat) (da : Nat → Nat) (T : Nat) (C : Nat) (U : Nat) (V : Nat) (rd : Nat → Int32) (ro : Nat → Int32) (lw : Nat → Option Nat) (pl : Nat → Option Nat) (pc : Nat → Int32) (gv : Nat → Int32) (aw : Nat → Int32) (nt : Nat → Int32) (A : Nat → Nat → Int32) (ln : Nat) (kk : Int32) (pp : Int32) (ac : Int32) (w : Int32) (Y : va_W) (X : va_W) (hn : nOK (A 0) T C V U) (hrel : relL (A 0) T C U V rd ro lw pl pc gv Y) : Met l yX8_patience (Cond.code yX8_patience cX8_patience 6 (some .int) :: TBL) { frames := 6, cells := 0, slots := 0, locals := 148 } (zPc [.ref x9, .int kk, .int pp, .int ac, .int w] g (xW g x9 d rr im tx (nI ln) ab be (A 3 0) (A 3 1) (A 3 2) tb ib ++ (lW g d da (nI T) (nI C) (nI U) (nI V) rd ro lw pl pc gv aw nt ++ (Y ++ X)))) (zQi g (fun r ws => r = (patienceR (A 0) T C kk pp ac w) ∧ lS g x9 d da rr im tx (chk (patOK kk pp ac && pIn 0 1 w) A) ln ab be tb ib Y X ws)) 0 0 (zA (gz g)) := by
  refine z_start (by decide +kernel) rfl (Nat.le_of_ble_eq_true rfl) ?_
  intro p e s m args below meth c ls hE hr hnm hB hl
  have hl : lv_has ls 6 [(0, .ref x9), (1, .int kk), (2, .int pp), (3, .int ac), (4, .int w)] := hl
  revert hB
  generalize s.heap = H
  generalize ([] : List Loc) = locs
  intro hB
  have hT6 := hn.T6
  have hC8 := hn.C8
  have hV8 := hn.V8
  have hU8 := hn.U8
  refine lv_iload_n hE.x hE.b dX8_patience_0 rfl (lv_at hl 1 rfl) ?_
  refine lv_iload_n hE.x hE.b dX8_patience_1 rfl (lv_at hl 2 rfl) ?_
  refine lv_iload_n hE.x hE.b dX8_patience_2 rfl (lv_at hl 3 rfl) ?_
  refine z_qi hB (z_cS hE hB (c_X8_arePatient l g kk pp ac (xW g x9 d rr im tx (nI ln) ab be (A 3 0) (A 3 1) (A 3 2) tb ib ++ (lW g d da (nI T) (nI C) (nI U) (nI V) rd ro lw pl pc gv aw nt ++ (Y ++ X)))) q3_112 kX8_arePatient ⟨rfl, rfl⟩ ⟨Nat.le_of_ble_eq_true rfl, Nat.le_of_ble_eq_true rfl⟩ rfl hl.1 rfl (Nat.le_of_ble_eq_true rfl) dX8_patience_3 ⟨Nat.le_of_ble_eq_true rfl, Nat.le_of_ble_eq_true rfl⟩) (fun r_1 w_2 H locs hw hB => ?_)
  obtain ⟨hr9, hw9⟩ := hw
  have hr9 := hr9.symm
  subst hr9
  have hw9 := hw9.symm
  subst hw9
  refine z_bf (b := (patOK kk pp ac)) (tgt := 19) hE dX8_patience_6 (by decide) (fun c_3 => ?_) (fun c_3 => ?_)
  · refine lv_aload_n hE.x hE.b dX8_patience_19 rfl (lv_at hl 0 rfl) ?_
    refine lv_bipush (v := (-2)) hE.x hE.b dX8_patience_20 rfl ?_
    refine z_qi hB (z_cV hE hB (c_X8_bad l g x9 d rr im tx (nI ln) ab be (A 3 0) (A 3 1) (A 3 2) tb ib (-2) (lW g d da (nI T) (nI C) (nI U) (nI V) rd ro lw pl pc gv aw nt ++ (Y ++ X))) q1_126 kX8_bad ⟨rfl, rfl⟩ ⟨Nat.le_of_ble_eq_true rfl, Nat.le_of_ble_eq_true rfl⟩ 0 rfl rfl rfl hl.1 rfl (Nat.le_of_ble_eq_true rfl) dX8_patience_22 ⟨Nat.le_of_ble_eq_true rfl, Nat.le_of_ble_eq_true rfl⟩) (fun r_4 w_5 H locs hw hB => ?_)
    obtain ⟨hr9, hw9⟩ := hw
    have hr9 := hr9.symm
    subst hr9
    have hw9 := hw9.symm
    subst hw9
    exact z_iret (v := (-2)) (ws := xW g x9 d rr im tx (nI ln) ab be ((A 3 0) + nI 1) (A 3 1) (A 3 2) tb ib ++ (lW g d da (nI T) (nI C) (nI U) (nI V) rd ro lw pl pc gv aw nt ++ (Y ++ X))) hE hB hr (⟨(by unfold patienceR; rw [if_neg (by rw [(show (patOK kk pp ac && pIn 0 1 w) = false by unfold pIn; simp [c_3])]; decide)]), lS_i (A1 := bump 0 A) T C U V rd ro lw pl pc gv aw nt Y (chk_f (show (patOK kk pp ac && pIn 0 1 w) = false by unfold pIn; simp [c_3])) rfl hn hrel (fun _ h => h)⟩) dX8_patience_25
  · refine lv_iload hE.x hE.b dX8_patience_9 (lv_at hl 4 rfl) ?_
    refine lv_iconst (v := nI 0) hE.x hE.b dX8_patience_11 rfl ?_
    refine lv_iconst (v := nI 1) hE.x hE.b dX8_patience_12 rfl ?_
    refine z_qi hB (z_cS hE hB (c_X8_within l g w (nI 0) (nI 1) w.toInt (0 : Int) (1 : Int) (xW g x9 d rr im tx (nI ln) ab be (A 3 0) (A 3 1) (A 3 2) tb ib ++ (lW g d da (nI T) (nI C) (nI U) (nI V) rd ro lw pl pc gv aw nt ++ (Y ++ X))) rfl rfl rfl) q1_123 kX8_within ⟨rfl, rfl⟩ ⟨Nat.le_of_ble_eq_true rfl, Nat.le_of_ble_eq_true rfl⟩ rfl hl.1 rfl (Nat.le_of_ble_eq_true rfl) dX8_patience_13 ⟨Nat.le_of_ble_eq_true rfl, Nat.le_of_ble_eq_true rfl⟩) (fun r_6 w_7 H locs hw hB => ?_)
    obtain ⟨hr9, hw9⟩ := hw
    have hr9 := hr9.symm
    subst hr9
    have hw9 := hw9.symm
    subst hw9
    refine z_bt (b := (inZ (0 : Int) (1 : Int) w.toInt)) (tgt := 26) hE dX8_patience_16 (by decide) (fun c_8 => ?_) (fun c_8 => ?_)
    · obtain ⟨k1, p1, a1, hk1, hp1, ha1, rfl, rfl, rfl⟩ := pat_i c_3
      refine lv_aload_n hE.x hE.b dX8_patience_26 rfl (lv_at hl 0 rfl) ?_
      refine lv_iload_n hE.x hE.b dX8_patience_27 rfl (lv_at hl 1 rfl) ?_
      refine lv_iload_n hE.x hE.b dX8_patience_28 rfl (lv_at hl 2 rfl) ?_
      refine lv_iload_n hE.x hE.b dX8_patience_29 rfl (lv_at hl 3 rfl) ?_
      refine lv_iconst (v := nI 0) hE.x hE.b dX8_patience_30 rfl ?_
      refine z_qi hB (z_cV hE hB (c_X8_firstDay l g x9 d rr im tx (nI ln) ab be (A 3 0) (A 3 1) (A 3 2) tb ib da T C U V rd ro lw pl pc gv aw nt k1 p1 a1 0 (A 0) Y (Y ++ X) hn hrel (fun _ h => List.mem_append_left _ h) (by omega) (by omega) (by omega)) q3_115 kX8_firstDay ⟨rfl, rfl⟩ ⟨Nat.le_of_ble_eq_true rfl, Nat.le_of_ble_eq_true rfl⟩ 0 rfl rfl rfl hl.1 rfl (Nat.le_of_ble_eq_true rfl) dX8_patience_31 ⟨Nat.le_of_ble_eq_true rfl, Nat.le_of_ble_eq_true rfl⟩) (fun r_9 w_10 H locs hw hB => ?_)
      obtain ⟨hr9, hw9⟩ := hw
      have hr9 := hr9.symm
      subst hr9
      have hw9 := hw9.symm
      subst hw9
      refine lv_istore (lv' := [(5, .int (nI (gE (giR (A 0) T C k1 p1 a1 0)))), (0, .ref x9), (1, .int (nI k1)), (2, .int (nI p1)), (3, .int (nI a1)), (4, .int w)]) hE.x hE.b dX8_patience_34 hl (by decide) rfl (fun ls hl => ?_)
      have hg60 : gE (giR (A 0) T C k1 p1 a1 0) ≤ 60 := gE_60
      refine lv_iload hE.x hE.b dX8_patience_36 (lv_at hl 0 rfl) ?_
      refine lv_bipush (v := (nI 60)) hE.x hE.b dX8_patience_38 rfl ?_
      refine z_lt (tgt := 45) (X := (((gE (giR (A 0) T C k1 p1 a1 0)) : Nat) : Int)) (Y := (60 : Int)) hE dX8_patience_40 (by decide) (nI_toInt (n := (gE (giR (A 0) T C k1 p1 a1 0))) (by omega)) rfl (fun c_11 => ?_) (fun c_11 => ?_)
      · obtain ⟨e9, w9, hG⟩ := gE_s (x := (giR (A 0) T C k1 p1 a1 0)) (by omega)
        have hge : gE (giR (A 0) T C k1 p1 a1 0) = e9 := by rw [hG]; rfl
        rw [hge] at hl
        refine lv_iload hE.x hE.b dX8_patience_45 (lv_at hl 5 rfl) ?_
        refine lv_if_ne (tgt := 55) hE.x hE.b dX8_patience_47 (by decide) (fun c_12 => ?_) (fun c_12 => ?_)
        · refine lv_aload_n hE.x hE.b dX8_patience_55 rfl (lv_at hl 1 rfl) ?_
          refine lv_iload_n hE.x hE.b dX8_patience_56 rfl (lv_at hl 2 rfl) ?_
          refine lv_iload_n hE.x hE.b dX8_patience_57 rfl (lv_at hl 3 rfl) ?_
          refine lv_iload_n hE.x hE.b dX8_patience_58 rfl (lv_at hl 4 rfl) ?_
          refine lv_iload hE.x hE.b dX8_patience_59 (lv_at hl 0 rfl) ?_
          refine z_qi hB (z_cV hE hB (c_X8_whoGivesIn l g x9 d rr im tx (nI ln) ab be (A 3 0) (A 3 1) (A 3 2) tb ib da T C U V rd ro lw pl pc gv aw nt k1 p1 a1 e9 w9 (A 0) Y (Y ++ X) hn hrel (fun _ h => List.mem_append_left _ h) (by omega) (by omega) (by omega) hG) q3_127 kX8_whoGivesIn ⟨rfl, rfl⟩ ⟨Nat.le_of_ble_eq_true rfl, Nat.le_of_ble_eq_true rfl⟩ 0 rfl rfl rfl hl.1 rfl (Nat.le_of_ble_eq_true rfl) dX8_patience_61 ⟨Nat.le_of_ble_eq_true rfl, Nat.le_of_ble_eq_true rfl⟩) (fun r_13 w_14 H locs hw hB => ?_)
          obtain ⟨hr9, hw9⟩ := hw
          have hr9 := hr9.symm
          subst hr9
          have hw9 := hw9.symm
          subst hw9
          exact z_iret (v := (nI w9)) (ws := xW g x9 d rr im tx (nI ln) ab be (A 3 0) (A 3 1) (A 3 2) tb ib ++ (lW g d da (nI T) (nI C) (nI U) (nI V) rd ro lw pl pc gv aw nt ++ (Y ++ X))) hE hB hr (⟨(by unfold patienceR; rw [if_pos (show (patOK (nI k1) (nI p1) (nI a1) && pIn 0 1 w) = true by unfold pIn; simp [c_3, c_8]), if_neg c_12, rc_i (show k1 < 1000 by omega), rc_i (show p1 < 1000 by omega), rc_i (show a1 < 1000 by omega), hG]; rfl), lS_i (A1 := A) T C U V rd ro lw pl pc gv aw nt Y (chk_t (show (patOK (nI k1) (nI p1) (nI a1) && pIn 0 1 w) = true by unfold pIn; simp [c_3, c_8])) rfl hn hrel (fun _ h => h)⟩) dX8_patience_64
        · refine lv_iload hE.x hE.b dX8_patience_50 (lv_at hl 0 rfl) ?_
          refine lv_goto (tgt := 64) hE.x hE.b dX8_patience_52 (by decide) ?_
          exact z_iret (v := (nI e9)) (ws := xW g x9 d rr im tx (nI ln) ab be (A 3 0) (A 3 1) (A 3 2) tb ib ++ (lW g d da (nI T) (nI C) (nI U) (nI V) rd ro lw pl pc gv aw nt ++ (Y ++ X))) hE hB hr (⟨(by unfold patienceR; rw [if_pos (show (patOK (nI k1) (nI p1) (nI a1) && pIn 0 1 w) = true by unfold pIn; simp [c_3, c_8]), if_pos c_12, rc_i (show k1 < 1000 by omega), rc_i (show p1 < 1000 by omega), rc_i (show a1 < 1000 by omega), hG]; rfl), lS_i (A1 := A) T C U V rd ro lw pl pc gv aw nt Y (chk_t (show (patOK (nI k1) (nI p1) (nI a1) && pIn 0 1 w) = true by unfold pIn; simp [c_3, c_8])) rfl hn hrel (fun _ h => h)⟩) dX8_patience_64
      · refine lv_iconst (v := (-1)) hE.x hE.b dX8_patience_43 rfl ?_
        exact z_iret (v := (-1)) (ws := xW g x9 d rr im tx (nI ln) ab be (A 3 0) (A 3 1) (A 3 2) tb ib ++ (lW g d da (nI T) (nI C) (nI U) (nI V) rd ro lw pl pc gv aw nt ++ (Y ++ X))) hE hB hr (⟨(by unfold patienceR; rw [if_pos (show (patOK (nI k1) (nI p1) (nI a1) && pIn 0 1 w) = true by unfold pIn; simp [c_3, c_8]), rc_i (show k1 < 1000 by omega), rc_i (show p1 < 1000 by omega), rc_i (show a1 < 1000 by omega), gE_n (by omega)]; split <;> rfl), lS_i (A1 := A) T C U V rd ro lw pl pc gv aw nt Y (chk_t (show (patOK (nI k1) (nI p1) (nI a1) && pIn 0 1 w) = true by unfold pIn; simp [c_3, c_8])) rfl hn hrel (fun _ h => h)⟩) dX8_patience_44
    · refine lv_aload_n hE.x hE.b dX8_patience_19 rfl (lv_at hl 0 rfl) ?_
      refine lv_bipush (v := (-2)) hE.x hE.b dX8_patience_20 rfl ?_
      refine z_qi hB (z_cV hE hB (c_X8_bad l g x9 d rr im tx (nI ln) ab be (A 3 0) (A 3 1) (A 3 2) tb ib (-2) (lW g d da (nI T) (nI C) (nI U) (nI V) rd ro lw pl pc gv aw nt ++ (Y ++ X))) q1_126 kX8_bad ⟨rfl, rfl⟩ ⟨Nat.le_of_ble_eq_true rfl, Nat.le_of_ble_eq_true rfl⟩ 0 rfl rfl rfl hl.1 rfl (Nat.le_of_ble_eq_true rfl) dX8_patience_22 ⟨Nat.le_of_ble_eq_true rfl, Nat.le_of_ble_eq_true rfl⟩) (fun r_15 w_16 H locs hw hB => ?_)
      obtain ⟨hr9, hw9⟩ := hw
      have hr9 := hr9.symm
      subst hr9
      have hw9 := hw9.symm
      subst hw9
      exact z_iret (v := (-2)) (ws := xW g x9 d rr im tx (nI ln) ab be ((A 3 0) + nI 1) (A 3 1) (A 3 2) tb ib ++ (lW g d da (nI T) (nI C) (nI U) (nI V) rd ro lw pl pc gv aw nt ++ (Y ++ X))) hE hB hr (⟨(by unfold patienceR; rw [if_neg (by rw [(show (patOK kk pp ac && pIn 0 1 w) = false by unfold pIn; simp [c_3, c_8])]; decide)]), lS_i (A1 := bump 0 A) T C U V rd ro lw pl pc gv aw nt Y (chk_f (show (patOK kk pp ac && pIn 0 1 w) = false by unfold pIn; simp [c_3, c_8])) rfl hn hrel (fun _ h => h)⟩) dX8_patience_25

set_option maxHeartbeats 4000000 in
set_option maxRecDepth 100000 in
theorem c_X8_concede (l : Launch) (g : zG) (x9 : Nat) (d : Nat) (rr : Nat) (im : Nat) (tx : Nat) (ab : Int32) (be : Int32) (tb : Nat → Int32) (ib : Nat → Option Nat) (da : Nat → Nat) (T : Nat) (C : Nat) (U : Nat) (V : Nat) (rd : Nat → Int32) (ro : Nat → Int32) (lw : Nat → Option Nat) (pl : Nat → Option Nat) (pc : Nat → Int32) (gv : Nat → Int32) (aw : Nat → Int32) (nt : Nat → Int32) (A : Nat → Nat → Int32) (ln : Nat) (x : Int32) (kk : Int32) (pp : Int32) (ac : Int32) (Y : va_W) (X : va_W) (hn : nOK (A 0) T C V U) (hrel : relL (A 0) T C U V rd ro lw pl pc gv Y) : Met l yX8_concede (Cond.code yX8_concede cX8_concede 5 (some .int) :: TBL) { frames := 6, cells := 0, slots := 0, locals := 148 } (zPc [.ref x9, .int x, .int kk, .int pp, .int ac] g (xW g x9 d rr im tx (nI ln) ab be (A 3 0) (A 3 1) (A 3 2) tb ib ++ (lW g d da (nI T) (nI C) (nI U) (nI V) rd ro lw pl pc gv aw nt ++ (Y ++ X)))) (zQi g (fun r ws => r = (concedeR (A 0) T C x kk pp ac) ∧ lS g x9 d da rr im tx (chk (concedeOK C x kk pp ac) A) ln ab be tb ib Y X ws)) 0 0 (zA (gz g)) := by
  refine z_start (by decide +kernel) rfl (Nat.le_of_ble_eq_true rfl) ?_
  intro p e s m args below meth c ls hE hr hnm hB hl
  have hl : lv_has ls 5 [(0, .ref x9), (1, .int x), (2, .int kk), (3, .int pp), (4, .int ac)] := hl
  revert hB
  generalize s.heap = H
  generalize ([] : List Loc) = locs
  intro hB
  have hT6 := hn.T6
  have hC8 := hn.C8
  have hV8 := hn.V8
  have hU8 := hn.U8
  refine lv_iload_n hE.x hE.b dX8_concede_0 rfl (lv_at hl 1 rfl) ?_
  refine lv_iconst (v := nI 0) hE.x hE.b dX8_concede_1 rfl ?_
  refine lv_aload_n hE.x hE.b dX8_concede_2 rfl (lv_at hl 0 rfl) ?_
  refine z_get (v := .ref d) hE hB inX8 0 rfl rfl 0 (by decide) q1_79 (fun _ h9 => h9) rfl dX8_concede_3 ?_
  refine z_get (v := .int (nI C)) hE hB inX4 3 rfl rfl 1 (by decide) q1_37 (fun _ h9 => h9) rfl dX8_concede_6 ?_
  refine lv_iconst (v := nI 1) hE.x hE.b dX8_concede_9 rfl ?_
  refine lv_isub hE.x hE.b dX8_concede_10 ?_
  obtain ⟨tm, htm, etm⟩ : ∃ z : Int32, z.toInt = (C : Int) - 1 ∧ nI C - nI 1 = z := ⟨_, sub1_toInt (by omega), rfl⟩
  refine z_top (y := tm) etm ?_
  refine z_qi hB (z_cS hE hB (c_X8_within l g x (nI 0) tm x.toInt (0 : Int) ((C : Int) - 1) (xW g x9 d rr im tx (nI ln) ab be (A 3 0) (A 3 1) (A 3 2) tb ib ++ (lW g d da (nI T) (nI C) (nI U) (nI V) rd ro lw pl pc gv aw nt ++ (Y ++ X))) rfl rfl htm) q1_123 kX8_within ⟨rfl, rfl⟩ ⟨Nat.le_of_ble_eq_true rfl, Nat.le_of_ble_eq_true rfl⟩ rfl hl.1 rfl (Nat.le_of_ble_eq_true rfl) dX8_concede_11 ⟨Nat.le_of_ble_eq_true rfl, Nat.le_of_ble_eq_true rfl⟩) (fun r_1 w_2 H locs hw hB => ?_)
  obtain ⟨hr9, hw9⟩ := hw
  have hr9 := hr9.symm
  subst hr9
  have hw9 := hw9.symm
  subst hw9
  refine z_bf (b := (inZ (0 : Int) ((C : Int) - 1) x.toInt)) (tgt := 27) hE dX8_concede_14 (by decide) (fun c_3 => ?_) (fun c_3 => ?_)
  · refine lv_aload_n hE.x hE.b dX8_concede_27 rfl (lv_at hl 0 rfl) ?_
    refine lv_bipush (v := (-100)) hE.x hE.b dX8_concede_28 rfl ?_
    refine z_qi hB (z_cV hE hB (c_X8_bad l g x9 d rr im tx (nI ln) ab be (A 3 0) (A 3 1) (A 3 2) tb ib (-100) (lW g d da (nI T) (nI C) (nI U) (nI V) rd ro lw pl pc gv aw nt ++ (Y ++ X))) q1_126 kX8_bad ⟨rfl, rfl⟩ ⟨Nat.le_of_ble_eq_true rfl, Nat.le_of_ble_eq_true rfl⟩ 0 rfl rfl rfl hl.1 rfl (Nat.le_of_ble_eq_true rfl) dX8_concede_30 ⟨Nat.le_of_ble_eq_true rfl, Nat.le_of_ble_eq_true rfl⟩) (fun r_4 w_5 H locs hw hB => ?_)
    obtain ⟨hr9, hw9⟩ := hw
    have hr9 := hr9.symm
    subst hr9
    have hw9 := hw9.symm
    subst hw9
    exact z_iret (v := (-100)) (ws := xW g x9 d rr im tx (nI ln) ab be ((A 3 0) + nI 1) (A 3 1) (A 3 2) tb ib ++ (lW g d da (nI T) (nI C) (nI U) (nI V) rd ro lw pl pc gv aw nt ++ (Y ++ X))) hE hB hr (⟨(by unfold concedeR; rw [if_neg (by rw [(show (concedeOK C x kk pp ac) = false by unfold concedeOK; rw [st_ok]; simp [c_3])]; decide)]), lS_i (A1 := bump 0 A) T C U V rd ro lw pl pc gv aw nt Y (chk_f (show (concedeOK C x kk pp ac) = false by unfold concedeOK; rw [st_ok]; simp [c_3])) rfl hn hrel (fun _ h => h)⟩) dX8_concede_33
  · refine lv_iload_n hE.x hE.b dX8_concede_17 rfl (lv_at hl 2 rfl) ?_
    refine lv_iload_n hE.x hE.b dX8_concede_18 rfl (lv_at hl 3 rfl) ?_
    refine lv_iload hE.x hE.b dX8_concede_19 (lv_at hl 4 rfl) ?_
    refine z_qi hB (z_cS hE hB (c_X8_arePatient l g kk pp ac (xW g x9 d rr im tx (nI ln) ab be (A 3 0) (A 3 1) (A 3 2) tb ib ++ (lW g d da (nI T) (nI C) (nI U) (nI V) rd ro lw pl pc gv aw nt ++ (Y ++ X)))) q3_112 kX8_arePatient ⟨rfl, rfl⟩ ⟨Nat.le_of_ble_eq_true rfl, Nat.le_of_ble_eq_true rfl⟩ rfl hl.1 rfl (Nat.le_of_ble_eq_true rfl) dX8_concede_21 ⟨Nat.le_of_ble_eq_true rfl, Nat.le_of_ble_eq_true rfl⟩) (fun r_6 w_7 H locs hw hB => ?_)
    obtain ⟨hr9, hw9⟩ := hw
    have hr9 := hr9.symm
    subst hr9
    have hw9 := hw9.symm
    subst hw9
    refine z_bt (b := (patOK kk pp ac)) (tgt := 34) hE dX8_concede_24 (by decide) (fun c_8 => ?_) (fun c_8 => ?_)
    · obtain ⟨k1, p1, a1, hk1, hp1, ha1, rfl, rfl, rfl⟩ := pat_i c_8
      refine lv_aload_n hE.x hE.b dX8_concede_34 rfl (lv_at hl 0 rfl) ?_
      refine lv_iload_n hE.x hE.b dX8_concede_35 rfl (lv_at hl 2 rfl) ?_
      obtain ⟨i, hi, rfl⟩ := pTown_nI (T := C) (x := x) (st_ok.trans c_3) (by omega)
      refine lv_iload_n hE.x hE.b dX8_concede_36 rfl (lv_at hl 3 rfl) ?_
      refine lv_iload hE.x hE.b dX8_concede_37 (lv_at hl 4 rfl) ?_
      refine lv_iconst (v := nI 1) hE.x hE.b dX8_concede_39 rfl ?_
      refine lv_iload_n hE.x hE.b dX8_concede_40 rfl (lv_at hl 1 rfl) ?_
      refine lv_ishl hE.x hE.b dX8_concede_41 ?_
      refine z_top (y := (nI (2 ^ i))) (shl_8 i (by omega)) ?_
      refine z_qi hB (z_cV hE hB (c_X8_firstDay l g x9 d rr im tx (nI ln) ab be (A 3 0) (A 3 1) (A 3 2) tb ib da T C U V rd ro lw pl pc gv aw nt k1 p1 a1 (2 ^ i) (A 0) Y (Y ++ X) hn hrel (fun _ h => List.mem_append_left _ h) (by omega) (by omega) (by omega)) q3_115 kX8_firstDay ⟨rfl, rfl⟩ ⟨Nat.le_of_ble_eq_true rfl, Nat.le_of_ble_eq_true rfl⟩ 0 rfl rfl rfl hl.1 rfl (Nat.le_of_ble_eq_true rfl) dX8_concede_42 ⟨Nat.le_of_ble_eq_true rfl, Nat.le_of_ble_eq_true rfl⟩) (fun r_9 w_10 H locs hw hB => ?_)
      obtain ⟨hr9, hw9⟩ := hw
      have hr9 := hr9.symm
      subst hr9
      have hw9 := hw9.symm
      subst hw9
      refine lv_aload_n hE.x hE.b dX8_concede_45 rfl (lv_at hl 0 rfl) ?_
      refine lv_iload_n hE.x hE.b dX8_concede_46 rfl (lv_at hl 2 rfl) ?_
      refine lv_iload_n hE.x hE.b dX8_concede_47 rfl (lv_at hl 3 rfl) ?_
      refine lv_iload hE.x hE.b dX8_concede_48 (lv_at hl 4 rfl) ?_
      refine lv_iconst (v := nI 0) hE.x hE.b dX8_concede_50 rfl ?_
      refine z_qi hB (z_cV hE hB (c_X8_firstDay l g x9 d rr im tx (nI ln) ab be (A 3 0) (A 3 1) (A 3 2) tb ib da T C U V rd ro lw pl pc gv aw nt k1 p1 a1 0 (A 0) Y (Y ++ X) hn hrel (fun _ h => List.mem_append_left _ h) (by omega) (by omega) (by omega)) q3_115 kX8_firstDay ⟨rfl, rfl⟩ ⟨Nat.le_of_ble_eq_true rfl, Nat.le_of_ble_eq_true rfl⟩ 0 rfl rfl rfl hl.1 rfl (Nat.le_of_ble_eq_true rfl) dX8_concede_51 ⟨Nat.le_of_ble_eq_true rfl, Nat.le_of_ble_eq_true rfl⟩) (fun r_11 w_12 H locs hw hB => ?_)
      obtain ⟨hr9, hw9⟩ := hw
      have hr9 := hr9.symm
      subst hr9
      have hw9 := hw9.symm
      subst hw9
      refine lv_isub hE.x hE.b dX8_concede_54 ?_
      exact z_iret (v := ((nI (gE (giR (A 0) T C k1 p1 a1 (2 ^ i)))) - (nI (gE (giR (A 0) T C k1 p1 a1 0))))) (ws := xW g x9 d rr im tx (nI ln) ab be (A 3 0) (A 3 1) (A 3 2) tb ib ++ (lW g d da (nI T) (nI C) (nI U) (nI V) rd ro lw pl pc gv aw nt ++ (Y ++ X))) hE hB hr (⟨(by unfold concedeR; rw [if_pos (show concedeOK C (nI i) (nI k1) (nI p1) (nI a1) = true by unfold concedeOK; rw [st_ok, c_3, c_8]; rfl), rc_i (show k1 < 1000 by omega), rc_i (show p1 < 1000 by omega), rc_i (show a1 < 1000 by omega), rc_i (show i < 1000 by omega)]), lS_i (A1 := A) T C U V rd ro lw pl pc gv aw nt Y (chk_t (show concedeOK C (nI i) (nI k1) (nI p1) (nI a1) = true by unfold concedeOK; rw [st_ok, c_3, c_8]; rfl)) rfl hn hrel (fun _ h => h)⟩) dX8_concede_55
    · refine lv_aload_n hE.x hE.b dX8_concede_27 rfl (lv_at hl 0 rfl) ?_
      refine lv_bipush (v := (-100)) hE.x hE.b dX8_concede_28 rfl ?_
      refine z_qi hB (z_cV hE hB (c_X8_bad l g x9 d rr im tx (nI ln) ab be (A 3 0) (A 3 1) (A 3 2) tb ib (-100) (lW g d da (nI T) (nI C) (nI U) (nI V) rd ro lw pl pc gv aw nt ++ (Y ++ X))) q1_126 kX8_bad ⟨rfl, rfl⟩ ⟨Nat.le_of_ble_eq_true rfl, Nat.le_of_ble_eq_true rfl⟩ 0 rfl rfl rfl hl.1 rfl (Nat.le_of_ble_eq_true rfl) dX8_concede_30 ⟨Nat.le_of_ble_eq_true rfl, Nat.le_of_ble_eq_true rfl⟩) (fun r_13 w_14 H locs hw hB => ?_)
      obtain ⟨hr9, hw9⟩ := hw
      have hr9 := hr9.symm
      subst hr9
      have hw9 := hw9.symm
      subst hw9
      exact z_iret (v := (-100)) (ws := xW g x9 d rr im tx (nI ln) ab be ((A 3 0) + nI 1) (A 3 1) (A 3 2) tb ib ++ (lW g d da (nI T) (nI C) (nI U) (nI V) rd ro lw pl pc gv aw nt ++ (Y ++ X))) hE hB hr (⟨(by unfold concedeR; rw [if_neg (by rw [(show (concedeOK C x kk pp ac) = false by unfold concedeOK; rw [st_ok]; simp [c_3, c_8])]; decide)]), lS_i (A1 := bump 0 A) T C U V rd ro lw pl pc gv aw nt Y (chk_f (show (concedeOK C x kk pp ac) = false by unfold concedeOK; rw [st_ok]; simp [c_3, c_8])) rfl hn hrel (fun _ h => h)⟩) dX8_concede_33

set_option maxHeartbeats 4000000 in
set_option maxRecDepth 100000 in
theorem c_X8_presses (l : Launch) (g : zG) (x9 : Nat) (d : Nat) (rr : Nat) (im : Nat) (tx : Nat) (ab : Int32) (be : Int32) (tb : Nat → Int32) (ib : Nat → Option Nat) (da : Nat → Nat) (T : Nat) (C : Nat) (U : Nat) (V : Nat) (rd : Nat → Int32) (ro : Nat → Int32) (lw : Nat → Option Nat) (pl : Nat → Option Nat) (pc : Nat → Int32) (gv : Nat → Int32) (aw : Nat → Int32) (nt : Nat → Int32) (A : Nat → Nat → Int32) (ln : Nat) (ac : Int32) (w : Int32) (Y : va_W) (X : va_W) (hn : nOK (A 0) T C V U) (hrel : relL (A 0) T C U V rd ro lw pl pc gv Y) : Met l yX8_presses (Cond.code yX8_presses cX8_presses 7 (some .int) :: TBL) { frames := 5, cells := 0, slots := 0, locals := 119 } (zPc [.ref x9, .int ac, .int w] g (xW g x9 d rr im tx (nI ln) ab be (A 3 0) (A 3 1) (A 3 2) tb ib ++ (lW g d da (nI T) (nI C) (nI U) (nI V) rd ro lw pl pc gv aw nt ++ (Y ++ X)))) (zQi g (fun r ws => r = (pressesR (A 0) T C ac w) ∧ lS g x9 d da rr im tx (chk (pIn 0 63 ac && pIn 0 1 w) A) ln ab be tb ib Y X ws)) 0 0 (zA (gz g)) := by
  refine z_start (by decide +kernel) rfl (Nat.le_of_ble_eq_true rfl) ?_
  intro p e s m args below meth c ls hE hr hnm hB hl
  have hl : lv_has ls 7 [(0, .ref x9), (1, .int ac), (2, .int w)] := hl
  revert hB
  generalize s.heap = H
  generalize ([] : List Loc) = locs
  intro hB
  have hT6 := hn.T6
  have hC8 := hn.C8
  have hV8 := hn.V8
  have hU8 := hn.U8
  refine lv_iload_n hE.x hE.b dX8_presses_0 rfl (lv_at hl 1 rfl) ?_
  refine lv_iconst (v := nI 0) hE.x hE.b dX8_presses_1 rfl ?_
  refine lv_bipush (v := (nI 63)) hE.x hE.b dX8_presses_2 rfl ?_
  refine z_qi hB (z_cS hE hB (c_X8_within l g ac (nI 0) (nI 63) ac.toInt (0 : Int) (63 : Int) (xW g x9 d rr im tx (nI ln) ab be (A 3 0) (A 3 1) (A 3 2) tb ib ++ (lW g d da (nI T) (nI C) (nI U) (nI V) rd ro lw pl pc gv aw nt ++ (Y ++ X))) rfl rfl rfl) q1_123 kX8_within ⟨rfl, rfl⟩ ⟨Nat.le_of_ble_eq_true rfl, Nat.le_of_ble_eq_true rfl⟩ rfl hl.1 rfl (Nat.le_of_ble_eq_true rfl) dX8_presses_4 ⟨Nat.le_of_ble_eq_true rfl, Nat.le_of_ble_eq_true rfl⟩) (fun r_1 w_2 H locs hw hB => ?_)
  obtain ⟨hr9, hw9⟩ := hw
  have hr9 := hr9.symm
  subst hr9
  have hw9 := hw9.symm
  subst hw9
  refine z_bf (b := (inZ (0 : Int) (63 : Int) ac.toInt)) (tgt := 19) hE dX8_presses_7 (by decide) (fun c_3 => ?_) (fun c_3 => ?_)
  · refine lv_aload_n hE.x hE.b dX8_presses_19 rfl (lv_at hl 0 rfl) ?_
    refine lv_bipush (v := (-2)) hE.x hE.b dX8_presses_20 rfl ?_
    refine z_qi hB (z_cV hE hB (c_X8_bad l g x9 d rr im tx (nI ln) ab be (A 3 0) (A 3 1) (A 3 2) tb ib (-2) (lW g d da (nI T) (nI C) (nI U) (nI V) rd ro lw pl pc gv aw nt ++ (Y ++ X))) q1_126 kX8_bad ⟨rfl, rfl⟩ ⟨Nat.le_of_ble_eq_true rfl, Nat.le_of_ble_eq_true rfl⟩ 0 rfl rfl rfl hl.1 rfl (Nat.le_of_ble_eq_true rfl) dX8_presses_22 ⟨Nat.le_of_ble_eq_true rfl, Nat.le_of_ble_eq_true rfl⟩) (fun r_4 w_5 H locs hw hB => ?_)
    obtain ⟨hr9, hw9⟩ := hw
    have hr9 := hr9.symm
    subst hr9
    have hw9 := hw9.symm
    subst hw9
    exact z_iret (v := (-2)) (ws := xW g x9 d rr im tx (nI ln) ab be ((A 3 0) + nI 1) (A 3 1) (A 3 2) tb ib ++ (lW g d da (nI T) (nI C) (nI U) (nI V) rd ro lw pl pc gv aw nt ++ (Y ++ X))) hE hB hr (⟨(by unfold pressesR; rw [if_neg (by rw [(show (pIn 0 63 ac && pIn 0 1 w) = false by unfold pIn; simp [c_3])]; decide)]), lS_i (A1 := bump 0 A) T C U V rd ro lw pl pc gv aw nt Y (chk_f (show (pIn 0 63 ac && pIn 0 1 w) = false by unfold pIn; simp [c_3])) rfl hn hrel (fun _ h => h)⟩) dX8_presses_25
  · refine lv_iload_n hE.x hE.b dX8_presses_10 rfl (lv_at hl 2 rfl) ?_
    refine lv_iconst (v := nI 0) hE.x hE.b dX8_presses_11 rfl ?_
    refine lv_iconst (v := nI 1) hE.x hE.b dX8_presses_12 rfl ?_
    refine z_qi hB (z_cS hE hB (c_X8_within l g w (nI 0) (nI 1) w.toInt (0 : Int) (1 : Int) (xW g x9 d rr im tx (nI ln) ab be (A 3 0) (A 3 1) (A 3 2) tb ib ++ (lW g d da (nI T) (nI C) (nI U) (nI V) rd ro lw pl pc gv aw nt ++ (Y ++ X))) rfl rfl rfl) q1_123 kX8_within ⟨rfl, rfl⟩ ⟨Nat.le_of_ble_eq_true rfl, Nat.le_of_ble_eq_true rfl⟩ rfl hl.1 rfl (Nat.le_of_ble_eq_true rfl) dX8_presses_13 ⟨Nat.le_of_ble_eq_true rfl, Nat.le_of_ble_eq_true rfl⟩) (fun r_6 w_7 H locs hw hB => ?_)
    obtain ⟨hr9, hw9⟩ := hw
    have hr9 := hr9.symm
    subst hr9
    have hw9 := hw9.symm
    subst hw9
    refine z_bt (b := (inZ (0 : Int) (1 : Int) w.toInt)) (tgt := 26) hE dX8_presses_16 (by decide) (fun c_8 => ?_) (fun c_8 => ?_)
    · obtain ⟨an, han, rfl⟩ := pIn_nI (hi := 63) (x := ac) c_3 (by omega)
      refine lv_iconst (v := (-1)) hE.x hE.b dX8_presses_26 rfl ?_
      refine lv_istore_n (lv' := [(3, .int (-1)), (0, .ref x9), (1, .int (nI an)), (2, .int w)]) hE.x hE.b dX8_presses_27 rfl hl (by decide) rfl (fun ls hl => ?_)
      refine lv_iconst (v := nI 0) hE.x hE.b dX8_presses_28 rfl ?_
      refine lv_istore (lv' := [(4, .int (nI 0)), (3, .int (-1)), (0, .ref x9), (1, .int (nI an)), (2, .int w)]) hE.x hE.b dX8_presses_29 hl (by decide) rfl (fun ls hl => ?_)
      refine lv_iconst (v := nI 0) hE.x hE.b dX8_presses_31 rfl ?_
      refine lv_istore (lv' := [(5, .int (nI 0)), (4, .int (nI 0)), (3, .int (-1)), (0, .ref x9), (1, .int (nI an)), (2, .int w)]) hE.x hE.b dX8_presses_32 hl (by decide) rfl (fun ls hl => ?_)
      have k34 : ∀ (fu : Nat) (hI : Int32) (x : Option (Nat × Nat)) (m9 : Nat) (t : Nat) (H : Heap) (locs : List Loc) (ls : Array Slot), T - t < fu → (t ≤ T) → (x = prs (prsC (A 0) C an) t) → (m9 = prM x) → (hI = oI (x.map Prod.fst)) → (m9 ≤ 60) → zB g s (xW g x9 d rr im tx (nI ln) ab be (A 3 0) (A 3 1) (A 3 2) tb ib ++ (lW g d da (nI T) (nI C) (nI U) (nI V) rd ro lw pl pc gv aw nt ++ (Y ++ X))) H locs → lv_has ls 7 [(5, .int (nI t)), (4, .int (nI m9)), (3, .int hI), (0, .ref x9), (1, .int (nI an)), (2, .int w)] → W p l e { frames := 5, cells := 0, slots := 0, locals := 119 } s m args below meth c H locs 0 0 (MQ below (zQi g (fun r ws => r = (pressesR (A 0) T C (nI an) w) ∧ lS g x9 d da rr im tx (chk (pIn 0 63 (nI an) && pIn 0 1 w) A) ln ab be tb ib Y X ws)) args s 0 0 (zA (gz g))) (F0 m 34 ls []) := by
        intro fu
        induction fu with
        | zero => intro hI x m9 t H locs ls hfu ht hx hm hh hm60 hB hl; exact absurd hfu (Nat.not_lt_zero _)
        | succ fu ih34 =>
          intro hI x m9 t H locs ls hfu ht hx hm hh hm60 hB hl
          refine lv_iload hE.x hE.b dX8_presses_34 (lv_at hl 0 rfl) ?_
          refine lv_aload_n hE.x hE.b dX8_presses_36 rfl (lv_at hl 3 rfl) ?_
          refine z_get (v := .ref d) hE hB inX8 0 rfl rfl 0 (by decide) q1_79 (fun _ h9 => h9) rfl dX8_presses_37 ?_
          refine z_get (v := .int (nI T)) hE hB inX4 3 rfl rfl 0 (by decide) q1_34 (fun _ h9 => h9) rfl dX8_presses_40 ?_
          refine z_ge (tgt := 83) (X := ((t : Nat) : Int)) (Y := ((T : Nat) : Int)) hE dX8_presses_43 (by decide) (nI_toInt (n := t) (by omega)) (nI_toInt (n := T) (by omega)) (fun c_9 => ?_) (fun c_9 => ?_)
          · subst hh
            refine lv_iload_n hE.x hE.b dX8_presses_83 rfl (lv_at hl 5 rfl) ?_
            refine lv_if_ne (tgt := 91) hE.x hE.b dX8_presses_84 (by decide) (fun c_10 => ?_) (fun c_10 => ?_)
            · refine lv_iload hE.x hE.b dX8_presses_91 (lv_at hl 1 rfl) ?_
              exact z_iret (v := (nI m9)) (ws := xW g x9 d rr im tx (nI ln) ab be (A 3 0) (A 3 1) (A 3 2) tb ib ++ (lW g d da (nI T) (nI C) (nI U) (nI V) rd ro lw pl pc gv aw nt ++ (Y ++ X))) hE hB hr (⟨(by rw [pr_end (x := x) (by rw [hx, show t = T by omega]) (by omega) (show (pIn 0 63 (nI an) && pIn 0 1 w) = true by unfold pIn; simp [c_3, c_8]), if_neg c_10, hm]), lS_i (A1 := A) T C U V rd ro lw pl pc gv aw nt Y (chk_t (show (pIn 0 63 (nI an) && pIn 0 1 w) = true by unfold pIn; simp [c_3, c_8])) rfl hn hrel (fun _ h => h)⟩) dX8_presses_93
            · refine lv_iload_n hE.x hE.b dX8_presses_87 rfl (lv_at hl 2 rfl) ?_
              refine lv_goto (tgt := 93) hE.x hE.b dX8_presses_88 (by decide) ?_
              exact z_iret (v := (oI (x.map Prod.fst))) (ws := xW g x9 d rr im tx (nI ln) ab be (A 3 0) (A 3 1) (A 3 2) tb ib ++ (lW g d da (nI T) (nI C) (nI U) (nI V) rd ro lw pl pc gv aw nt ++ (Y ++ X))) hE hB hr (⟨(by rw [pr_end (x := x) (by rw [hx, show t = T by omega]) (by omega) (show (pIn 0 63 (nI an) && pIn 0 1 w) = true by unfold pIn; simp [c_3, c_8]), if_pos c_10]), lS_i (A1 := A) T C U V rd ro lw pl pc gv aw nt Y (chk_t (show (pIn 0 63 (nI an) && pIn 0 1 w) = true by unfold pIn; simp [c_3, c_8])) rfl hn hrel (fun _ h => h)⟩) dX8_presses_93
          · refine lv_aload_n hE.x hE.b dX8_presses_46 rfl (lv_at hl 3 rfl) ?_
            refine z_get (v := .ref d) hE hB inX8 0 rfl rfl 0 (by decide) q1_79 (fun _ h9 => h9) rfl dX8_presses_47 ?_
            refine lv_iload hE.x hE.b dX8_presses_50 (lv_at hl 0 rfl) ?_
            refine lv_iload_n hE.x hE.b dX8_presses_52 rfl (lv_at hl 4 rfl) ?_
            have hB := zB_perm hB (List.perm_append_comm_assoc _ _ _)
            refine z_qi hB (z_cV hE hB (c_X4_daysPressed l g d da T C U V rd ro lw pl pc gv aw nt t an (A 0) Y (xW g x9 d rr im tx (nI ln) ab be (A 3 0) (A 3 1) (A 3 2) tb ib ++ (Y ++ X)) hn hrel (fun _ h => List.mem_append_right _ (List.mem_append_left _ h)) (by omega) (by omega)) q3_139 kX4_daysPressed ⟨rfl, rfl⟩ ⟨Nat.le_of_ble_eq_true rfl, Nat.le_of_ble_eq_true rfl⟩ 0 rfl rfl rfl hl.1 rfl (Nat.le_of_ble_eq_true rfl) dX8_presses_53 ⟨Nat.le_of_ble_eq_true rfl, Nat.le_of_ble_eq_true rfl⟩) (fun r_11 w_12 H locs hw hB => ?_)
            obtain ⟨hr9, hw9⟩ := hw
            have hr9 := hr9.symm
            subst hr9
            have hw9 := hw9.symm
            subst hw9
            refine lv_istore (lv' := [(6, .int (nI (prsC (A 0) C an t))), (5, .int (nI t)), (4, .int (nI m9)), (3, .int hI), (0, .ref x9), (1, .int (nI an)), (2, .int w)]) hE.x hE.b dX8_presses_56 hl (by decide) rfl (fun ls hl => ?_)
            subst hh
            have hc60 : (prsC (A 0) C an) t ≤ 60 := prsC_60
            refine lv_iload_n hE.x hE.b dX8_presses_58 rfl (lv_at hl 3 rfl) ?_
            refine lv_iconst (v := (-1)) hE.x hE.b dX8_presses_59 rfl ?_
            refine lv_icmp_eq (tgt := 70) hE.x hE.b dX8_presses_60 (by decide) (fun c_13 => ?_) (fun c_13 => ?_)
            · refine lv_iload hE.x hE.b dX8_presses_70 (lv_at hl 1 rfl) ?_
              refine lv_istore_n (lv' := [(3, .int (nI t)), (6, .int (nI (prsC (A 0) C an t))), (5, .int (nI t)), (4, .int (nI m9)), (0, .ref x9), (1, .int (nI an)), (2, .int w)]) hE.x hE.b dX8_presses_72 rfl hl (by decide) rfl (fun ls hl => ?_)
              refine lv_iload hE.x hE.b dX8_presses_73 (lv_at hl 1 rfl) ?_
              refine lv_istore (lv' := [(4, .int (nI (prsC (A 0) C an t))), (3, .int (nI t)), (6, .int (nI (prsC (A 0) C an t))), (5, .int (nI t)), (0, .ref x9), (1, .int (nI an)), (2, .int w)]) hE.x hE.b dX8_presses_75 hl (by decide) rfl (fun ls hl => ?_)
              refine lv_iinc (v := (nI (t + 1))) (lv' := [(5, .int (nI (t + 1))), (4, .int (nI (prsC (A 0) C an t))), (3, .int (nI t)), (6, .int (nI (prsC (A 0) C an t))), (0, .ref x9), (1, .int (nI an)), (2, .int w)]) hE.x hE.b dX8_presses_77 hl (k := 3) rfl (nI_add _ _) (by decide) rfl (fun ls hl => ?_)
              refine lv_goto (tgt := 34) hE.x hE.b dX8_presses_80 (by decide) ?_
              have hB := zB_perm hB (List.perm_append_comm_assoc _ _ _)
              exact ih34 (nI t) (some (t, (prsC (A 0) C an) t)) (prsC (A 0) C an t) (t + 1) _ _ _ (by omega) (by omega) (pr_n hx (by omega) c_13) rfl rfl (by omega) hB (lv_sub hl [0, 1, 2, 4, 5, 6] rfl)
            · refine lv_iload hE.x hE.b dX8_presses_63 (lv_at hl 0 rfl) ?_
              refine lv_iload hE.x hE.b dX8_presses_65 (lv_at hl 2 rfl) ?_
              refine z_le (tgt := 77) (X := (((prsC (A 0) C an t) : Nat) : Int)) (Y := ((m9 : Nat) : Int)) hE dX8_presses_67 (by decide) (nI_toInt (n := (prsC (A 0) C an t)) (by omega)) (nI_toInt (n := m9) (by omega)) (fun c_14 => ?_) (fun c_14 => ?_)
              · refine lv_iinc (v := (nI (t + 1))) (lv' := [(5, .int (nI (t + 1))), (6, .int (nI (prsC (A 0) C an t))), (4, .int (nI m9)), (3, .int (oI (x.map Prod.fst))), (0, .ref x9), (1, .int (nI an)), (2, .int w)]) hE.x hE.b dX8_presses_77 hl (k := 1) rfl (nI_add _ _) (by decide) rfl (fun ls hl => ?_)
                refine lv_goto (tgt := 34) hE.x hE.b dX8_presses_80 (by decide) ?_
                have hB := zB_perm hB (List.perm_append_comm_assoc _ _ _)
                exact ih34 (oI (x.map Prod.fst)) x m9 (t + 1) _ _ _ (by omega) (by omega) (pr_o hx hm (by omega) c_13) hm rfl (by omega) hB (lv_sub hl [0, 2, 3, 4, 5, 6] rfl)
              · refine lv_iload hE.x hE.b dX8_presses_70 (lv_at hl 1 rfl) ?_
                refine lv_istore_n (lv' := [(3, .int (nI t)), (6, .int (nI (prsC (A 0) C an t))), (5, .int (nI t)), (4, .int (nI m9)), (0, .ref x9), (1, .int (nI an)), (2, .int w)]) hE.x hE.b dX8_presses_72 rfl hl (by decide) rfl (fun ls hl => ?_)
                refine lv_iload hE.x hE.b dX8_presses_73 (lv_at hl 1 rfl) ?_
                refine lv_istore (lv' := [(4, .int (nI (prsC (A 0) C an t))), (3, .int (nI t)), (6, .int (nI (prsC (A 0) C an t))), (5, .int (nI t)), (0, .ref x9), (1, .int (nI an)), (2, .int w)]) hE.x hE.b dX8_presses_75 hl (by decide) rfl (fun ls hl => ?_)
                refine lv_iinc (v := (nI (t + 1))) (lv' := [(5, .int (nI (t + 1))), (4, .int (nI (prsC (A 0) C an t))), (3, .int (nI t)), (6, .int (nI (prsC (A 0) C an t))), (0, .ref x9), (1, .int (nI an)), (2, .int w)]) hE.x hE.b dX8_presses_77 hl (k := 3) rfl (nI_add _ _) (by decide) rfl (fun ls hl => ?_)
                refine lv_goto (tgt := 34) hE.x hE.b dX8_presses_80 (by decide) ?_
                have hB := zB_perm hB (List.perm_append_comm_assoc _ _ _)
                exact ih34 (nI t) (some (t, (prsC (A 0) C an) t)) (prsC (A 0) C an t) (t + 1) _ _ _ (by omega) (by omega) (pr_y hx hm (by omega)) rfl rfl (by omega) hB (lv_sub hl [0, 1, 2, 4, 5, 6] rfl)
      exact k34 (T - 0 + 1) (-1) none 0 0 _ _ _ (Nat.lt_succ_self _) (by omega) rfl rfl rfl (by omega) hB hl
    · refine lv_aload_n hE.x hE.b dX8_presses_19 rfl (lv_at hl 0 rfl) ?_
      refine lv_bipush (v := (-2)) hE.x hE.b dX8_presses_20 rfl ?_
      refine z_qi hB (z_cV hE hB (c_X8_bad l g x9 d rr im tx (nI ln) ab be (A 3 0) (A 3 1) (A 3 2) tb ib (-2) (lW g d da (nI T) (nI C) (nI U) (nI V) rd ro lw pl pc gv aw nt ++ (Y ++ X))) q1_126 kX8_bad ⟨rfl, rfl⟩ ⟨Nat.le_of_ble_eq_true rfl, Nat.le_of_ble_eq_true rfl⟩ 0 rfl rfl rfl hl.1 rfl (Nat.le_of_ble_eq_true rfl) dX8_presses_22 ⟨Nat.le_of_ble_eq_true rfl, Nat.le_of_ble_eq_true rfl⟩) (fun r_15 w_16 H locs hw hB => ?_)
      obtain ⟨hr9, hw9⟩ := hw
      have hr9 := hr9.symm
      subst hr9
      have hw9 := hw9.symm
      subst hw9
      exact z_iret (v := (-2)) (ws := xW g x9 d rr im tx (nI ln) ab be ((A 3 0) + nI 1) (A 3 1) (A 3 2) tb ib ++ (lW g d da (nI T) (nI C) (nI U) (nI V) rd ro lw pl pc gv aw nt ++ (Y ++ X))) hE hB hr (⟨(by unfold pressesR; rw [if_neg (by rw [(show (pIn 0 63 ac && pIn 0 1 w) = false by unfold pIn; simp [c_3, c_8])]; decide)]), lS_i (A1 := bump 0 A) T C U V rd ro lw pl pc gv aw nt Y (chk_f (show (pIn 0 63 ac && pIn 0 1 w) = false by unfold pIn; simp [c_3, c_8])) rfl hn hrel (fun _ h => h)⟩) dX8_presses_25

set_option maxHeartbeats 4000000 in
set_option maxRecDepth 100000 in
theorem c_X8_forged (l : Launch) (g : zG) (x9 : Nat) (d : Nat) (rr : Nat) (im : Nat) (tx : Nat) (ab : Int32) (be : Int32) (tb : Nat → Int32) (ib : Nat → Option Nat) (da : Nat → Nat) (T : Nat) (C : Nat) (U : Nat) (V : Nat) (rd : Nat → Int32) (ro : Nat → Int32) (lw : Nat → Option Nat) (pl : Nat → Option Nat) (pc : Nat → Int32) (gv : Nat → Int32) (aw : Nat → Int32) (nt : Nat → Int32) (A : Nat → Nat → Int32) (ln : Nat) (Y : va_W) (X : va_W) (hn : nOK (A 0) T C V U) (hrel : relL (A 0) T C U V rd ro lw pl pc gv Y) : Met l yX8_forged (Cond.code yX8_forged cX8_forged 3 (some .int) :: TBL) { frames := 5, cells := 0, slots := 0, locals := 115 } (zPc [.ref x9] g (xW g x9 d rr im tx (nI ln) ab be (A 3 0) (A 3 1) (A 3 2) tb ib ++ (lW g d da (nI T) (nI C) (nI U) (nI V) rd ro lw pl pc gv aw nt ++ (Y ++ X)))) (zQi g (fun r ws => r = (forgedR (A 0) C V) ∧ lS g x9 d da rr im tx A ln ab be tb ib Y X ws)) 0 0 (zA (gz g)) := by
  refine z_start (by decide +kernel) rfl (Nat.le_of_ble_eq_true rfl) ?_
  intro p e s m args below meth c ls hE hr hnm hB hl
  have hl : lv_has ls 3 [(0, .ref x9)] := hl
  revert hB
  generalize s.heap = H
  generalize ([] : List Loc) = locs
  intro hB
  have hT6 := hn.T6
  have hC8 := hn.C8
  have hV8 := hn.V8
  have hU8 := hn.U8
  refine lv_iconst (v := nI 0) hE.x hE.b dX8_forged_0 rfl ?_
  refine lv_istore_n (lv' := [(1, .int (nI 0)), (0, .ref x9)]) hE.x hE.b dX8_forged_1 rfl hl (by decide) rfl (fun ls hl => ?_)
  refine lv_iconst (v := nI 0) hE.x hE.b dX8_forged_2 rfl ?_
  refine lv_istore_n (lv' := [(2, .int (nI 0)), (1, .int (nI 0)), (0, .ref x9)]) hE.x hE.b dX8_forged_3 rfl hl (by decide) rfl (fun ls hl => ?_)
  have k4 : ∀ (fu : Nat) (b9 : Nat) (k : Nat) (H : Heap) (locs : List Loc) (ls : Array Slot), V - k < fu → (k ≤ V) → (b9 = rdB (fgP (A 0) C) k) → zB g s (xW g x9 d rr im tx (nI ln) ab be (A 3 0) (A 3 1) (A 3 2) tb ib ++ (lW g d da (nI T) (nI C) (nI U) (nI V) rd ro lw pl pc gv aw nt ++ (Y ++ X))) H locs → lv_has ls 3 [(2, .int (nI k)), (1, .int (nI b9)), (0, .ref x9)] → W p l e { frames := 5, cells := 0, slots := 0, locals := 115 } s m args below meth c H locs 0 0 (MQ below (zQi g (fun r ws => r = (forgedR (A 0) C V) ∧ lS g x9 d da rr im tx A ln ab be tb ib Y X ws)) args s 0 0 (zA (gz g))) (F0 m 4 ls []) := by
    intro fu
    induction fu with
    | zero => intro b9 k H locs ls hfu hk hb hB hl; exact absurd hfu (Nat.not_lt_zero _)
    | succ fu ih4 =>
      intro b9 k H locs ls hfu hk hb hB hl
      refine lv_iload_n hE.x hE.b dX8_forged_4 rfl (lv_at hl 0 rfl) ?_
      refine lv_aload_n hE.x hE.b dX8_forged_5 rfl (lv_at hl 2 rfl) ?_
      refine z_get (v := .ref d) hE hB inX8 0 rfl rfl 0 (by decide) q1_79 (fun _ h9 => h9) rfl dX8_forged_6 ?_
      refine z_get (v := .int (nI V)) hE hB inX4 3 rfl rfl 3 (by decide) q1_42 (fun _ h9 => h9) rfl dX8_forged_9 ?_
      refine z_ge (tgt := 38) (X := ((k : Nat) : Int)) (Y := ((V : Nat) : Int)) hE dX8_forged_12 (by decide) (nI_toInt (n := k) (by omega)) (nI_toInt (n := V) (by omega)) (fun c_1 => ?_) (fun c_1 => ?_)
      · refine lv_iload_n hE.x hE.b dX8_forged_38 rfl (lv_at hl 1 rfl) ?_
        exact z_iret (v := (nI b9)) (ws := xW g x9 d rr im tx (nI ln) ab be (A 3 0) (A 3 1) (A 3 2) tb ib ++ (lW g d da (nI T) (nI C) (nI U) (nI V) rd ro lw pl pc gv aw nt ++ (Y ++ X))) hE hB hr (⟨(by unfold forgedR; rw [hb, show k = V by omega]), lS_i (A1 := A) T C U V rd ro lw pl pc gv aw nt Y rfl rfl hn hrel (fun _ h => h)⟩) dX8_forged_39
      · refine lv_aload_n hE.x hE.b dX8_forged_15 rfl (lv_at hl 2 rfl) ?_
        refine z_get (v := .ref d) hE hB inX8 0 rfl rfl 0 (by decide) q1_79 (fun _ h9 => h9) rfl dX8_forged_16 ?_
        refine lv_iload_n hE.x hE.b dX8_forged_19 rfl (lv_at hl 0 rfl) ?_
        have hB := zB_perm hB (List.perm_append_comm_assoc _ _ _)
        refine z_qi hB (z_cV hE hB (c_X4_isForged l g d da T C U V rd ro lw pl pc gv aw nt k (A 0) Y (xW g x9 d rr im tx (nI ln) ab be (A 3 0) (A 3 1) (A 3 2) tb ib ++ (Y ++ X)) hn hrel (fun _ h => List.mem_append_right _ (List.mem_append_left _ h)) (by omega)) q3_159 kX4_isForged ⟨rfl, rfl⟩ ⟨Nat.le_of_ble_eq_true rfl, Nat.le_of_ble_eq_true rfl⟩ 0 rfl rfl rfl hl.1 rfl (Nat.le_of_ble_eq_true rfl) dX8_forged_20 ⟨Nat.le_of_ble_eq_true rfl, Nat.le_of_ble_eq_true rfl⟩) (fun r_2 w_3 H locs hw hB => ?_)
        obtain ⟨hr9, hw9⟩ := hw
        have hr9 := hr9.symm
        subst hr9
        have hw9 := hw9.symm
        subst hw9
        refine z_bf (b := (fgP (A 0) C k)) (tgt := 32) hE dX8_forged_23 (by decide) (fun c_4 => ?_) (fun c_4 => ?_)
        · refine lv_iinc (v := (nI (k + 1))) (lv' := [(2, .int (nI (k + 1))), (1, .int (nI b9)), (0, .ref x9)]) hE.x hE.b dX8_forged_32 hl (k := 0) rfl (nI_add _ _) (by decide) rfl (fun ls hl => ?_)
          refine lv_goto (tgt := 4) hE.x hE.b dX8_forged_35 (by decide) ?_
          have hB := zB_perm hB (List.perm_append_comm_assoc _ _ _)
          exact ih4 b9 (k + 1) _ _ _ (by omega) (by omega) (rdB_k hb c_4) hB hl
        · refine lv_iload_n hE.x hE.b dX8_forged_26 rfl (lv_at hl 1 rfl) ?_
          refine lv_iconst (v := nI 1) hE.x hE.b dX8_forged_27 rfl ?_
          refine lv_iload_n hE.x hE.b dX8_forged_28 rfl (lv_at hl 0 rfl) ?_
          refine lv_ishl hE.x hE.b dX8_forged_29 ?_
          refine z_top (y := (nI (2 ^ k))) (shl_8 k (by omega)) ?_
          refine lv_ior hE.x hE.b dX8_forged_30 ?_
          refine z_top (y := (nI (b9 ||| 2 ^ k))) (or_nI _ _) ?_
          refine lv_istore_n (lv' := [(1, .int (nI (b9 ||| 2 ^ k))), (2, .int (nI k)), (0, .ref x9)]) hE.x hE.b dX8_forged_31 rfl hl (by decide) rfl (fun ls hl => ?_)
          refine lv_iinc (v := (nI (k + 1))) (lv' := [(2, .int (nI (k + 1))), (1, .int (nI (b9 ||| 2 ^ k))), (0, .ref x9)]) hE.x hE.b dX8_forged_32 hl (k := 1) rfl (nI_add _ _) (by decide) rfl (fun ls hl => ?_)
          refine lv_goto (tgt := 4) hE.x hE.b dX8_forged_35 (by decide) ?_
          have hB := zB_perm hB (List.perm_append_comm_assoc _ _ _)
          exact ih4 (b9 ||| 2 ^ k) (k + 1) _ _ _ (by omega) (by omega) (rdB_y hb c_4) hB hl
  exact k4 (V - 0 + 1) 0 0 _ _ _ (Nat.lt_succ_self _) (by omega) rfl hB hl

set_option maxHeartbeats 4000000 in
set_option maxRecDepth 100000 in
theorem c_X8_whose (l : Launch) (g : zG) (x9 : Nat) (d : Nat) (rr : Nat) (im : Nat) (tx : Nat) (ab : Int32) (be : Int32) (tb : Nat → Int32) (ib : Nat → Option Nat) (da : Nat → Nat) (T : Nat) (C : Nat) (U : Nat) (V : Nat) (rd : Nat → Int32) (ro : Nat → Int32) (lw : Nat → Option Nat) (pl : Nat → Option Nat) (pc : Nat → Int32) (gv : Nat → Int32) (aw : Nat → Int32) (nt : Nat → Int32) (A : Nat → Nat → Int32) (ln : Nat) (tw : Int32) (w : Int32) (ac : Int32) (dd : Int32) (dy : Int32) (sh : Int32) (Y : va_W) (X : va_W) (hn : nOK (A 0) T C V U) (hrel : relL (A 0) T C U V rd ro lw pl pc gv Y) : Met l yX8_whose (Cond.code yX8_whose cX8_whose 10 (some .int) :: TBL) { frames := 4, cells := 0, slots := 0, locals := 92 } (zPc [.ref x9, .int tw, .int w, .int ac, .int dd, .int dy, .int sh] g (xW g x9 d rr im tx (nI ln) ab be (A 3 0) (A 3 1) (A 3 2) tb ib ++ (lW g d da (nI T) (nI C) (nI U) (nI V) rd ro lw pl pc gv aw nt ++ (Y ++ X)))) (zQi g (fun r ws => r = (whoseR (A 0) T C tw w ac dd dy sh) ∧ lS g x9 d da rr im tx (chk (whoseOK T tw w ac dd dy sh) A) ln ab be tb ib Y X ws)) 0 0 (zA (gz g)) := by
  refine z_start (by decide +kernel) rfl (Nat.le_of_ble_eq_true rfl) ?_
  intro p e s m args below meth c ls hE hr hnm hB hl
  have hl : lv_has ls 10 [(0, .ref x9), (1, .int tw), (2, .int w), (3, .int ac), (4, .int dd), (5, .int dy), (6, .int sh)] := hl
  revert hB
  generalize s.heap = H
  generalize ([] : List Loc) = locs
  intro hB
  have hT6 := hn.T6
  have hC8 := hn.C8
  have hV8 := hn.V8
  have hU8 := hn.U8
  refine lv_aload_n hE.x hE.b dX8_whose_0 rfl (lv_at hl 0 rfl) ?_
  refine lv_iload_n hE.x hE.b dX8_whose_1 rfl (lv_at hl 1 rfl) ?_
  refine lv_iload_n hE.x hE.b dX8_whose_2 rfl (lv_at hl 3 rfl) ?_
  refine lv_iload hE.x hE.b dX8_whose_3 (lv_at hl 4 rfl) ?_
  refine lv_iload hE.x hE.b dX8_whose_5 (lv_at hl 5 rfl) ?_
  refine lv_iload hE.x hE.b dX8_whose_7 (lv_at hl 6 rfl) ?_
  refine z_qi hB (z_cV hE hB (c_X8_isAsked l g x9 d rr im tx (nI ln) ab be (A 3 0) (A 3 1) (A 3 2) tb ib da T C U V rd ro lw pl pc gv aw nt tw ac dd dy sh (Y ++ X) (by omega)) q3_2 kX8_isAsked ⟨rfl, rfl⟩ ⟨Nat.le_of_ble_eq_true rfl, Nat.le_of_ble_eq_true rfl⟩ 0 rfl rfl rfl hl.1 rfl (Nat.le_of_ble_eq_true rfl) dX8_whose_9 ⟨Nat.le_of_ble_eq_true rfl, Nat.le_of_ble_eq_true rfl⟩) (fun r_1 w_2 H locs hw hB => ?_)
  obtain ⟨hr9, hw9⟩ := hw
  have hr9 := hr9.symm
  subst hr9
  have hw9 := hw9.symm
  subst hw9
  refine z_bf (b := (askOK T tw ac dd dy sh)) (tgt := 25) hE dX8_whose_12 (by decide) (fun c_3 => ?_) (fun c_3 => ?_)
  · refine lv_aload_n hE.x hE.b dX8_whose_25 rfl (lv_at hl 0 rfl) ?_
    refine lv_bipush (v := (-2)) hE.x hE.b dX8_whose_26 rfl ?_
    refine z_qi hB (z_cV hE hB (c_X8_bad l g x9 d rr im tx (nI ln) ab be (A 3 0) (A 3 1) (A 3 2) tb ib (-2) (lW g d da (nI T) (nI C) (nI U) (nI V) rd ro lw pl pc gv aw nt ++ (Y ++ X))) q1_126 kX8_bad ⟨rfl, rfl⟩ ⟨Nat.le_of_ble_eq_true rfl, Nat.le_of_ble_eq_true rfl⟩ 0 rfl rfl rfl hl.1 rfl (Nat.le_of_ble_eq_true rfl) dX8_whose_28 ⟨Nat.le_of_ble_eq_true rfl, Nat.le_of_ble_eq_true rfl⟩) (fun r_4 w_5 H locs hw hB => ?_)
    obtain ⟨hr9, hw9⟩ := hw
    have hr9 := hr9.symm
    subst hr9
    have hw9 := hw9.symm
    subst hw9
    exact z_iret (v := (-2)) (ws := xW g x9 d rr im tx (nI ln) ab be ((A 3 0) + nI 1) (A 3 1) (A 3 2) tb ib ++ (lW g d da (nI T) (nI C) (nI U) (nI V) rd ro lw pl pc gv aw nt ++ (Y ++ X))) hE hB hr (⟨(by unfold whoseR; rw [if_neg (by rw [(show whoseOK T tw w ac dd dy sh = false by rw [wh_ok]; simp [c_3])]; decide)]), lS_i (A1 := bump 0 A) T C U V rd ro lw pl pc gv aw nt Y (chk_f (show whoseOK T tw w ac dd dy sh = false by rw [wh_ok]; simp [c_3])) rfl hn hrel (fun _ h => h)⟩) dX8_whose_31
  · refine lv_iload_n hE.x hE.b dX8_whose_15 rfl (lv_at hl 2 rfl) ?_
    refine lv_iconst (v := nI 0) hE.x hE.b dX8_whose_16 rfl ?_
    refine lv_bipush (v := (nI 20)) hE.x hE.b dX8_whose_17 rfl ?_
    refine z_qi hB (z_cS hE hB (c_X8_within l g w (nI 0) (nI 20) w.toInt (0 : Int) (20 : Int) (xW g x9 d rr im tx (nI ln) ab be (A 3 0) (A 3 1) (A 3 2) tb ib ++ (lW g d da (nI T) (nI C) (nI U) (nI V) rd ro lw pl pc gv aw nt ++ (Y ++ X))) rfl rfl rfl) q1_123 kX8_within ⟨rfl, rfl⟩ ⟨Nat.le_of_ble_eq_true rfl, Nat.le_of_ble_eq_true rfl⟩ rfl hl.1 rfl (Nat.le_of_ble_eq_true rfl) dX8_whose_19 ⟨Nat.le_of_ble_eq_true rfl, Nat.le_of_ble_eq_true rfl⟩) (fun r_6 w_7 H locs hw hB => ?_)
    obtain ⟨hr9, hw9⟩ := hw
    have hr9 := hr9.symm
    subst hr9
    have hw9 := hw9.symm
    subst hw9
    refine z_bt (b := (inZ (0 : Int) (20 : Int) w.toInt)) (tgt := 32) hE dX8_whose_22 (by decide) (fun c_8 => ?_) (fun c_8 => ?_)
    · obtain ⟨t, a1, d1, y1, z1, ht, ha1, hd1, hy1, hz1, rfl, rfl, rfl, rfl, rfl⟩ := ask_i c_3 hT6
      refine lv_iload hE.x hE.b dX8_whose_32 (lv_at hl 5 rfl) ?_
      obtain ⟨w9, hw9, rfl⟩ := pIn_nI (hi := 20) (x := w) c_8 (by omega)
      refine lv_iload hE.x hE.b dX8_whose_34 (lv_at hl 6 rfl) ?_
      refine z_qi hB (z_cS hE hB (c_X8_asker l g y1 z1 (xW g x9 d rr im tx (nI ln) ab be (A 3 0) (A 3 1) (A 3 2) tb ib ++ (lW g d da (nI T) (nI C) (nI U) (nI V) rd ro lw pl pc gv aw nt ++ (Y ++ X)))) q3_6 kX8_asker ⟨rfl, rfl⟩ ⟨Nat.le_of_ble_eq_true rfl, Nat.le_of_ble_eq_true rfl⟩ rfl hl.1 rfl (Nat.le_of_ble_eq_true rfl) dX8_whose_36 ⟨Nat.le_of_ble_eq_true rfl, Nat.le_of_ble_eq_true rfl⟩) (fun r_9 w_10 H locs hw hB => ?_)
      obtain ⟨hr9, hw9⟩ := hw
      have hr9 := hr9.symm
      subst hr9
      have hw9 := hw9.symm
      subst hw9
      refine lv_istore (lv' := [(7, .int (nI (2 * y1 + z1))), (0, .ref x9), (1, .int (nI t)), (2, .int (nI w9)), (3, .int (nI a1)), (4, .int (nI d1)), (5, .int (nI y1)), (6, .int (nI z1))]) hE.x hE.b dX8_whose_39 hl (by decide) rfl (fun ls hl => ?_)
      refine lv_aload_n hE.x hE.b dX8_whose_41 rfl (lv_at hl 1 rfl) ?_
      refine z_get (v := .ref d) hE hB inX8 0 rfl rfl 0 (by decide) q1_79 (fun _ h9 => h9) rfl dX8_whose_42 ?_
      refine lv_iload_n hE.x hE.b dX8_whose_45 rfl (lv_at hl 2 rfl) ?_
      have hB := zB_perm hB (List.perm_append_comm_assoc _ _ _)
      refine z_qv hB (z_cV hE hB (c_X4_measure l g d da T C U V rd ro lw pl pc gv aw nt t (A 0) Y (xW g x9 d rr im tx (nI ln) ab be (A 3 0) (A 3 1) (A 3 2) tb ib ++ (Y ++ X)) hn hrel (fun _ h => List.mem_append_right _ (List.mem_append_left _ h)) (by omega)) q2_229 kX4_measure ⟨rfl, rfl⟩ ⟨Nat.le_of_ble_eq_true rfl, Nat.le_of_ble_eq_true rfl⟩ 0 rfl rfl rfl hl.1 rfl (Nat.le_of_ble_eq_true rfl) dX8_whose_46 ⟨Nat.le_of_ble_eq_true rfl, Nat.le_of_ble_eq_true rfl⟩) (fun w_12 H locs hw hB => ?_)
      obtain ⟨f9_13, hw9, hf_14⟩ := hw
      have hw9 := hw9.symm
      subst hw9
      have hfw := hf_14
      refine lv_iconst (v := nI 0) hE.x hE.b dX8_whose_49 rfl ?_
      refine lv_istore (lv' := [(8, .int (nI 0)), (7, .int (nI (2 * y1 + z1))), (0, .ref x9), (1, .int (nI t)), (2, .int (nI w9)), (3, .int (nI a1)), (4, .int (nI d1)), (5, .int (nI y1)), (6, .int (nI z1))]) hE.x hE.b dX8_whose_50 hl (by decide) rfl (fun ls hl => ?_)
      refine lv_iconst (v := nI 0) hE.x hE.b dX8_whose_52 rfl ?_
      refine lv_istore (lv' := [(9, .int (nI 0)), (8, .int (nI 0)), (7, .int (nI (2 * y1 + z1))), (0, .ref x9), (1, .int (nI t)), (2, .int (nI w9)), (3, .int (nI a1)), (4, .int (nI d1)), (5, .int (nI y1)), (6, .int (nI z1))]) hE.x hE.b dX8_whose_53 hl (by decide) rfl (fun ls hl => ?_)
      have k55 : ∀ (fu : Nat) (b9 : Nat) (q : Nat) (H : Heap) (locs : List Loc) (ls : Array Slot), T - q < fu → (q ≤ T) → (b9 = rdB (whP (A 0) T C t w9 (nI a1) (nI d1) (nI y1) (nI z1)) q) → zB g s (lW g d da (nI T) (nI C) (nI U) (nI V) rd ro lw pl pc gv f9_13 nt ++ (xW g x9 d rr im tx (nI ln) ab be (A 3 0) (A 3 1) (A 3 2) tb ib ++ (Y ++ X))) H locs → lv_has ls 10 [(9, .int (nI q)), (8, .int (nI b9)), (7, .int (nI (2 * y1 + z1))), (0, .ref x9), (1, .int (nI t)), (2, .int (nI w9)), (3, .int (nI a1)), (4, .int (nI d1)), (5, .int (nI y1)), (6, .int (nI z1))] → W p l e { frames := 4, cells := 0, slots := 0, locals := 92 } s m args below meth c H locs 0 0 (MQ below (zQi g (fun r ws => r = (whoseR (A 0) T C (nI t) (nI w9) (nI a1) (nI d1) (nI y1) (nI z1)) ∧ lS g x9 d da rr im tx (chk (whoseOK T (nI t) (nI w9) (nI a1) (nI d1) (nI y1) (nI z1)) A) ln ab be tb ib Y X ws)) args s 0 0 (zA (gz g))) (F0 m 55 ls []) := by
        intro fu
        induction fu with
        | zero => intro b9 q H locs ls hfu hq hb hB hl; exact absurd hfu (Nat.not_lt_zero _)
        | succ fu ih55 =>
          intro b9 q H locs ls hfu hq hb hB hl
          refine lv_iload hE.x hE.b dX8_whose_55 (lv_at hl 0 rfl) ?_
          refine lv_aload_n hE.x hE.b dX8_whose_57 rfl (lv_at hl 3 rfl) ?_
          refine z_get (v := .ref d) hE hB inX8 9 rfl rfl 0 (by decide) q1_79 (fun _ h9 => h9) rfl dX8_whose_58 ?_
          refine z_get (v := .int (nI T)) hE hB inX4 0 rfl rfl 0 (by decide) q1_34 (fun _ h9 => h9) rfl dX8_whose_61 ?_
          refine z_ge (tgt := 113) (X := ((q : Nat) : Int)) (Y := ((T : Nat) : Int)) hE dX8_whose_64 (by decide) (nI_toInt (n := q) (by omega)) (nI_toInt (n := T) (by omega)) (fun c_15 => ?_) (fun c_15 => ?_)
          · refine lv_iload hE.x hE.b dX8_whose_113 (lv_at hl 1 rfl) ?_
            have hB := zB_perm hB (List.perm_append_comm_assoc _ _ _)
            exact z_iret (v := (nI b9)) (ws := xW g x9 d rr im tx (nI ln) ab be (A 3 0) (A 3 1) (A 3 2) tb ib ++ (lW g d da (nI T) (nI C) (nI U) (nI V) rd ro lw pl pc gv f9_13 nt ++ (Y ++ X))) hE hB hr (⟨(by unfold whoseR; rw [if_pos (show whoseOK T (nI t) (nI w9) (nI a1) (nI d1) (nI y1) (nI z1) = true by rw [wh_ok, c_3, c_8]; rfl), rc_i (show t < 1000 by omega), rc_i (show w9 < 1000 by omega), hb, show q = T by omega]), lS_i (A1 := A) T C U V rd ro lw pl pc gv f9_13 nt Y (chk_t (show whoseOK T (nI t) (nI w9) (nI a1) (nI d1) (nI y1) (nI z1) = true by rw [wh_ok, c_3, c_8]; rfl)) rfl hn hrel (fun _ h => h)⟩) dX8_whose_115
          · have hfq := fC_D hn (fr := t) (by omega) q
            refine lv_aload_n hE.x hE.b dX8_whose_67 rfl (lv_at hl 3 rfl) ?_
            refine z_get (v := .ref d) hE hB inX8 9 rfl rfl 0 (by decide) q1_79 (fun _ h9 => h9) rfl dX8_whose_68 ?_
            refine z_get (v := .ref (da 6)) hE hB inX4 0 rfl rfl 10 (by decide) q1_50 (fun _ h9 => h9) rfl dX8_whose_71 ?_
            refine lv_iload hE.x hE.b dX8_whose_74 (lv_at hl 0 rfl) ?_
            refine z_iald (k := q) (f := f9_13) hE hB 7 rfl (by omega) (by decide) dX8_whose_76 ?_
            refine z_top (y := (nI (fC (A 0) T t q))) (hfw q (by omega)) ?_
            refine lv_iload_n hE.x hE.b dX8_whose_77 rfl (lv_at hl 5 rfl) ?_
            refine z_gt (tgt := 107) (X := (((fC (A 0) T t q) : Nat) : Int)) (Y := ((w9 : Nat) : Int)) hE dX8_whose_78 (by decide) (nI_toInt (n := (fC (A 0) T t q)) (by omega)) (nI_toInt (n := w9) (by omega)) (fun c_16 => ?_) (fun c_16 => ?_)
            · refine lv_iinc (v := (nI (q + 1))) (lv' := [(9, .int (nI (q + 1))), (8, .int (nI b9)), (7, .int (nI (2 * y1 + z1))), (0, .ref x9), (1, .int (nI t)), (2, .int (nI w9)), (3, .int (nI a1)), (4, .int (nI d1)), (5, .int (nI y1)), (6, .int (nI z1))]) hE.x hE.b dX8_whose_107 hl (k := 0) rfl (nI_add _ _) (by decide) rfl (fun ls hl => ?_)
              refine lv_goto (tgt := 55) hE.x hE.b dX8_whose_110 (by decide) ?_
              exact ih55 b9 (q + 1) _ _ _ (by omega) (by omega) (rdB_k hb (by unfold whP; rw [decide_eq_false (by omega)]; rfl)) hB hl
            · refine lv_aload_n hE.x hE.b dX8_whose_81 rfl (lv_at hl 3 rfl) ?_
              refine z_get (v := .ref d) hE hB inX8 9 rfl rfl 0 (by decide) q1_79 (fun _ h9 => h9) rfl dX8_whose_82 ?_
              refine lv_iload hE.x hE.b dX8_whose_85 (lv_at hl 0 rfl) ?_
              refine lv_iload_n hE.x hE.b dX8_whose_87 rfl (lv_at hl 6 rfl) ?_
              refine lv_iload hE.x hE.b dX8_whose_88 (lv_at hl 7 rfl) ?_
              refine lv_iload hE.x hE.b dX8_whose_90 (lv_at hl 2 rfl) ?_
              refine z_qi hB (z_cV hE hB (c_X4_forbids l g d da T C U V rd ro lw pl pc gv f9_13 nt q (nI a1) (nI d1) (2 * y1 + z1) (A 0) Y (xW g x9 d rr im tx (nI ln) ab be (A 3 0) (A 3 1) (A 3 2) tb ib ++ (Y ++ X)) hn hrel (fun _ h => List.mem_append_right _ (List.mem_append_left _ h)) (by omega) (by omega)) q3_64 kX4_forbids ⟨rfl, rfl⟩ ⟨Nat.le_of_ble_eq_true rfl, Nat.le_of_ble_eq_true rfl⟩ 0 rfl rfl rfl hl.1 rfl (Nat.le_of_ble_eq_true rfl) dX8_whose_92 ⟨Nat.le_of_ble_eq_true rfl, Nat.le_of_ble_eq_true rfl⟩) (fun r_17 w_18 H locs hw hB => ?_)
              obtain ⟨hr9, hw9⟩ := hw
              have hr9 := hr9.symm
              subst hr9
              have hw9 := hw9.symm
              subst hw9
              refine z_top (y := (bI (!(isA (A 0) C q (nI a1) (nI d1) (nI y1) (nI z1) 0)))) (by rw [show (2 * y1 + z1) / 2 = y1 by omega, show (2 * y1 + z1) % 2 = z1 by omega]) ?_
              refine z_bt (b := (!(isA (A 0) C q (nI a1) (nI d1) (nI y1) (nI z1) 0))) (tgt := 107) hE dX8_whose_95 (by decide) (fun c_19 => ?_) (fun c_19 => ?_)
              · refine lv_iinc (v := (nI (q + 1))) (lv' := [(9, .int (nI (q + 1))), (8, .int (nI b9)), (7, .int (nI (2 * y1 + z1))), (0, .ref x9), (1, .int (nI t)), (2, .int (nI w9)), (3, .int (nI a1)), (4, .int (nI d1)), (5, .int (nI y1)), (6, .int (nI z1))]) hE.x hE.b dX8_whose_107 hl (k := 0) rfl (nI_add _ _) (by decide) rfl (fun ls hl => ?_)
                refine lv_goto (tgt := 55) hE.x hE.b dX8_whose_110 (by decide) ?_
                exact ih55 b9 (q + 1) _ _ _ (by omega) (by omega) (rdB_k hb (by unfold whP; rw [show (isA (A 0) C q (nI a1) (nI d1) (nI y1) (nI z1) 0) = false by simpa using c_19, Bool.and_false])) hB hl
              · refine lv_iload hE.x hE.b dX8_whose_98 (lv_at hl 1 rfl) ?_
                refine lv_iconst (v := nI 1) hE.x hE.b dX8_whose_100 rfl ?_
                refine lv_iload hE.x hE.b dX8_whose_101 (lv_at hl 0 rfl) ?_
                refine lv_ishl hE.x hE.b dX8_whose_103 ?_
                refine z_top (y := (nI (2 ^ q))) (shl_8 q (by omega)) ?_
                refine lv_ior hE.x hE.b dX8_whose_104 ?_
                refine z_top (y := (nI (b9 ||| 2 ^ q))) (or_nI _ _) ?_
                refine lv_istore (lv' := [(8, .int (nI (b9 ||| 2 ^ q))), (9, .int (nI q)), (7, .int (nI (2 * y1 + z1))), (0, .ref x9), (1, .int (nI t)), (2, .int (nI w9)), (3, .int (nI a1)), (4, .int (nI d1)), (5, .int (nI y1)), (6, .int (nI z1))]) hE.x hE.b dX8_whose_105 hl (by decide) rfl (fun ls hl => ?_)
                refine lv_iinc (v := (nI (q + 1))) (lv' := [(9, .int (nI (q + 1))), (8, .int (nI (b9 ||| 2 ^ q))), (7, .int (nI (2 * y1 + z1))), (0, .ref x9), (1, .int (nI t)), (2, .int (nI w9)), (3, .int (nI a1)), (4, .int (nI d1)), (5, .int (nI y1)), (6, .int (nI z1))]) hE.x hE.b dX8_whose_107 hl (k := 1) rfl (nI_add _ _) (by decide) rfl (fun ls hl => ?_)
                refine lv_goto (tgt := 55) hE.x hE.b dX8_whose_110 (by decide) ?_
                exact ih55 (b9 ||| 2 ^ q) (q + 1) _ _ _ (by omega) (by omega) (rdB_y hb (by unfold whP; rw [show (isA (A 0) C q (nI a1) (nI d1) (nI y1) (nI z1) 0) = true by simpa using c_19, decide_eq_true (by omega)]; rfl)) hB hl
      exact k55 (T - 0 + 1) 0 0 _ _ _ (Nat.lt_succ_self _) (by omega) rfl hB hl
    · refine lv_aload_n hE.x hE.b dX8_whose_25 rfl (lv_at hl 0 rfl) ?_
      refine lv_bipush (v := (-2)) hE.x hE.b dX8_whose_26 rfl ?_
      refine z_qi hB (z_cV hE hB (c_X8_bad l g x9 d rr im tx (nI ln) ab be (A 3 0) (A 3 1) (A 3 2) tb ib (-2) (lW g d da (nI T) (nI C) (nI U) (nI V) rd ro lw pl pc gv aw nt ++ (Y ++ X))) q1_126 kX8_bad ⟨rfl, rfl⟩ ⟨Nat.le_of_ble_eq_true rfl, Nat.le_of_ble_eq_true rfl⟩ 0 rfl rfl rfl hl.1 rfl (Nat.le_of_ble_eq_true rfl) dX8_whose_28 ⟨Nat.le_of_ble_eq_true rfl, Nat.le_of_ble_eq_true rfl⟩) (fun r_20 w_21 H locs hw hB => ?_)
      obtain ⟨hr9, hw9⟩ := hw
      have hr9 := hr9.symm
      subst hr9
      have hw9 := hw9.symm
      subst hw9
      exact z_iret (v := (-2)) (ws := xW g x9 d rr im tx (nI ln) ab be ((A 3 0) + nI 1) (A 3 1) (A 3 2) tb ib ++ (lW g d da (nI T) (nI C) (nI U) (nI V) rd ro lw pl pc gv aw nt ++ (Y ++ X))) hE hB hr (⟨(by unfold whoseR; rw [if_neg (by rw [(show whoseOK T tw w ac dd dy sh = false by rw [wh_ok]; simp [c_3, c_8])]; decide)]), lS_i (A1 := bump 0 A) T C U V rd ro lw pl pc gv aw nt Y (chk_f (show whoseOK T tw w ac dd dy sh = false by rw [wh_ok]; simp [c_3, c_8])) rfl hn hrel (fun _ h => h)⟩) dX8_whose_31

set_option maxHeartbeats 4000000 in
set_option maxRecDepth 100000 in
theorem c_X8_odds (l : Launch) (g : zG) (x9 : Nat) (d : Nat) (rr : Nat) (im : Nat) (tx : Nat) (ab : Int32) (be : Int32) (tb : Nat → Int32) (ib : Nat → Option Nat) (da : Nat → Nat) (T : Nat) (C : Nat) (U : Nat) (V : Nat) (rd : Nat → Int32) (ro : Nat → Int32) (lw : Nat → Option Nat) (pl : Nat → Option Nat) (pc : Nat → Int32) (gv : Nat → Int32) (aw : Nat → Int32) (nt : Nat → Int32) (A : Nat → Nat → Int32) (ln : Nat) (tw : Int32) (ac : Int32) (dq : Int32) (dr : Int32) (dy : Int32) (sh : Int32) (Y : va_W) (X : va_W) (hn : nOK (A 0) T C V U) (hrel : relL (A 0) T C U V rd ro lw pl pc gv Y) : Met l yX8_odds (Cond.code yX8_odds cX8_odds 11 (some .int) :: TBL) { frames := 4, cells := 0, slots := 0, locals := 92 } (zPc [.ref x9, .int tw, .int ac, .int dq, .int dr, .int dy, .int sh] g (xW g x9 d rr im tx (nI ln) ab be (A 3 0) (A 3 1) (A 3 2) tb ib ++ (lW g d da (nI T) (nI C) (nI U) (nI V) rd ro lw pl pc gv aw nt ++ (Y ++ X)))) (zQi g (fun r ws => r = (if oddsOK T tw ac dq dr dy sh = true then nI 1 else (-2)) ∧ lS g x9 d da rr im tx (chk (oddsOK T tw ac dq dr dy sh) A) ln (oddsA (A 0) ab T C tw ac dq dr dy sh) (oddsB (A 0) be T C tw ac dq dr dy sh) tb ib Y X ws)) 0 0 (zA (gz g)) := by
  refine z_start (by decide +kernel) rfl (Nat.le_of_ble_eq_true rfl) ?_
  intro p e s m args below meth c ls hE hr hnm hB hl
  have hl : lv_has ls 11 [(0, .ref x9), (1, .int tw), (2, .int ac), (3, .int dq), (4, .int dr), (5, .int dy), (6, .int sh)] := hl
  revert hB
  generalize s.heap = H
  generalize ([] : List Loc) = locs
  intro hB
  have hT6 := hn.T6
  have hC8 := hn.C8
  have hV8 := hn.V8
  have hU8 := hn.U8
  refine lv_aload_n hE.x hE.b dX8_odds_0 rfl (lv_at hl 0 rfl) ?_
  refine lv_iload_n hE.x hE.b dX8_odds_1 rfl (lv_at hl 1 rfl) ?_
  refine lv_iload_n hE.x hE.b dX8_odds_2 rfl (lv_at hl 2 rfl) ?_
  refine lv_iload_n hE.x hE.b dX8_odds_3 rfl (lv_at hl 3 rfl) ?_
  refine lv_iload hE.x hE.b dX8_odds_4 (lv_at hl 5 rfl) ?_
  refine lv_iload hE.x hE.b dX8_odds_6 (lv_at hl 6 rfl) ?_
  refine z_qi hB (z_cV hE hB (c_X8_isAsked l g x9 d rr im tx (nI ln) ab be (A 3 0) (A 3 1) (A 3 2) tb ib da T C U V rd ro lw pl pc gv aw nt tw ac dq dy sh (Y ++ X) (by omega)) q3_2 kX8_isAsked ⟨rfl, rfl⟩ ⟨Nat.le_of_ble_eq_true rfl, Nat.le_of_ble_eq_true rfl⟩ 0 rfl rfl rfl hl.1 rfl (Nat.le_of_ble_eq_true rfl) dX8_odds_8 ⟨Nat.le_of_ble_eq_true rfl, Nat.le_of_ble_eq_true rfl⟩) (fun r_1 w_2 H locs hw hB => ?_)
  obtain ⟨hr9, hw9⟩ := hw
  have hr9 := hr9.symm
  subst hr9
  have hw9 := hw9.symm
  subst hw9
  refine z_bf (b := (askOK T tw ac dq dy sh)) (tgt := 25) hE dX8_odds_11 (by decide) (fun c_3 => ?_) (fun c_3 => ?_)
  · refine lv_aload_n hE.x hE.b dX8_odds_25 rfl (lv_at hl 0 rfl) ?_
    refine lv_bipush (v := (-2)) hE.x hE.b dX8_odds_26 rfl ?_
    refine z_qi hB (z_cV hE hB (c_X8_bad l g x9 d rr im tx (nI ln) ab be (A 3 0) (A 3 1) (A 3 2) tb ib (-2) (lW g d da (nI T) (nI C) (nI U) (nI V) rd ro lw pl pc gv aw nt ++ (Y ++ X))) q1_126 kX8_bad ⟨rfl, rfl⟩ ⟨Nat.le_of_ble_eq_true rfl, Nat.le_of_ble_eq_true rfl⟩ 0 rfl rfl rfl hl.1 rfl (Nat.le_of_ble_eq_true rfl) dX8_odds_28 ⟨Nat.le_of_ble_eq_true rfl, Nat.le_of_ble_eq_true rfl⟩) (fun r_4 w_5 H locs hw hB => ?_)
    obtain ⟨hr9, hw9⟩ := hw
    have hr9 := hr9.symm
    subst hr9
    have hw9 := hw9.symm
    subst hw9
    exact z_iret (v := (-2)) (ws := xW g x9 d rr im tx (nI ln) ab be ((A 3 0) + nI 1) (A 3 1) (A 3 2) tb ib ++ (lW g d da (nI T) (nI C) (nI U) (nI V) rd ro lw pl pc gv aw nt ++ (Y ++ X))) hE hB hr (⟨(by rw [if_neg (by rw [(show oddsOK T tw ac dq dr dy sh = false by rw [od_ok]; simp [c_3])]; decide)]), lS_i (A1 := bump 0 A) T C U V rd ro lw pl pc gv aw nt Y (chk_f (show oddsOK T tw ac dq dr dy sh = false by rw [od_ok]; simp [c_3])) (by unfold oddsA oddsB; rw [(show oddsOK T tw ac dq dr dy sh = false by rw [od_ok]; simp [c_3])]; rfl) hn hrel (fun _ h => h)⟩) dX8_odds_31
  · refine lv_iload hE.x hE.b dX8_odds_14 (lv_at hl 4 rfl) ?_
    refine lv_iload_n hE.x hE.b dX8_odds_16 rfl (lv_at hl 3 rfl) ?_
    refine lv_bipush (v := (nI 59)) hE.x hE.b dX8_odds_17 rfl ?_
    refine z_qi hB (z_cS hE hB (c_X8_within l g dr dq (nI 59) dr.toInt dq.toInt (59 : Int) (xW g x9 d rr im tx (nI ln) ab be (A 3 0) (A 3 1) (A 3 2) tb ib ++ (lW g d da (nI T) (nI C) (nI U) (nI V) rd ro lw pl pc gv aw nt ++ (Y ++ X))) rfl rfl rfl) q1_123 kX8_within ⟨rfl, rfl⟩ ⟨Nat.le_of_ble_eq_true rfl, Nat.le_of_ble_eq_true rfl⟩ rfl hl.1 rfl (Nat.le_of_ble_eq_true rfl) dX8_odds_19 ⟨Nat.le_of_ble_eq_true rfl, Nat.le_of_ble_eq_true rfl⟩) (fun r_6 w_7 H locs hw hB => ?_)
    obtain ⟨hr9, hw9⟩ := hw
    have hr9 := hr9.symm
    subst hr9
    have hw9 := hw9.symm
    subst hw9
    refine z_bt (b := (inZ dq.toInt (59 : Int) dr.toInt)) (tgt := 32) hE dX8_odds_22 (by decide) (fun c_8 => ?_) (fun c_8 => ?_)
    · obtain ⟨t, a1, d1, y1, z1, ht, ha1, hd1, hy1, hz1, rfl, rfl, rfl, rfl, rfl⟩ := ask_i c_3 hT6
      have hc9 := of_decide_eq_true c_8
      rw [nI_toInt (show d1 < 2 ^ 31 by omega)] at hc9
      obtain ⟨e9, he9, rfl⟩ := pIn_nI (hi := 59) (x := dr) (decide_eq_true (by omega)) (by omega)
      rw [nI_toInt (show e9 < 2 ^ 31 by omega)] at hc9
      refine lv_iload hE.x hE.b dX8_odds_32 (lv_at hl 5 rfl) ?_
      refine lv_iload hE.x hE.b dX8_odds_34 (lv_at hl 6 rfl) ?_
      refine z_qi hB (z_cS hE hB (c_X8_asker l g y1 z1 (xW g x9 d rr im tx (nI ln) ab be (A 3 0) (A 3 1) (A 3 2) tb ib ++ (lW g d da (nI T) (nI C) (nI U) (nI V) rd ro lw pl pc gv aw nt ++ (Y ++ X)))) q3_6 kX8_asker ⟨rfl, rfl⟩ ⟨Nat.le_of_ble_eq_true rfl, Nat.le_of_ble_eq_true rfl⟩ rfl hl.1 rfl (Nat.le_of_ble_eq_true rfl) dX8_odds_36 ⟨Nat.le_of_ble_eq_true rfl, Nat.le_of_ble_eq_true rfl⟩) (fun r_9 w_10 H locs hw hB => ?_)
      obtain ⟨hr9, hw9⟩ := hw
      have hr9 := hr9.symm
      subst hr9
      have hw9 := hw9.symm
      subst hw9
      refine lv_istore (lv' := [(7, .int (nI (2 * y1 + z1))), (0, .ref x9), (1, .int (nI t)), (2, .int (nI a1)), (3, .int (nI d1)), (4, .int (nI e9)), (5, .int (nI y1)), (6, .int (nI z1))]) hE.x hE.b dX8_odds_39 hl (by decide) rfl (fun ls hl => ?_)
      refine lv_iconst (v := nI 0) hE.x hE.b dX8_odds_41 rfl ?_
      refine lv_istore (lv' := [(8, .int (nI 0)), (7, .int (nI (2 * y1 + z1))), (0, .ref x9), (1, .int (nI t)), (2, .int (nI a1)), (3, .int (nI d1)), (4, .int (nI e9)), (5, .int (nI y1)), (6, .int (nI z1))]) hE.x hE.b dX8_odds_42 hl (by decide) rfl (fun ls hl => ?_)
      refine lv_iload_n hE.x hE.b dX8_odds_44 rfl (lv_at hl 5 rfl) ?_
      refine lv_istore (lv' := [(9, .int (nI d1)), (8, .int (nI 0)), (7, .int (nI (2 * y1 + z1))), (0, .ref x9), (1, .int (nI t)), (2, .int (nI a1)), (3, .int (nI d1)), (4, .int (nI e9)), (5, .int (nI y1)), (6, .int (nI z1))]) hE.x hE.b dX8_odds_45 hl (by decide) rfl (fun ls hl => ?_)
      have k47 : ∀ (fu : Nat) (v9 : Nat) (k : Nat) (H : Heap) (locs : List Loc) (ls : Array Slot), e9 + 1 - (d1 + k) < fu → (d1 + k ≤ e9 + 1) → (v9 = cn (odP (A 0) C t (nI a1) d1 (nI y1) (nI z1)) k) → zB g s (xW g x9 d rr im tx (nI ln) ab be (A 3 0) (A 3 1) (A 3 2) tb ib ++ (lW g d da (nI T) (nI C) (nI U) (nI V) rd ro lw pl pc gv aw nt ++ (Y ++ X))) H locs → lv_has ls 11 [(9, .int (nI (d1 + k))), (8, .int (nI v9)), (7, .int (nI (2 * y1 + z1))), (0, .ref x9), (1, .int (nI t)), (2, .int (nI a1)), (3, .int (nI d1)), (4, .int (nI e9)), (5, .int (nI y1)), (6, .int (nI z1))] → W p l e { frames := 4, cells := 0, slots := 0, locals := 92 } s m args below meth c H locs 0 0 (MQ below (zQi g (fun r ws => r = (if oddsOK T (nI t) (nI a1) (nI d1) (nI e9) (nI y1) (nI z1) = true then nI 1 else (-2)) ∧ lS g x9 d da rr im tx (chk (oddsOK T (nI t) (nI a1) (nI d1) (nI e9) (nI y1) (nI z1)) A) ln (oddsA (A 0) ab T C (nI t) (nI a1) (nI d1) (nI e9) (nI y1) (nI z1)) (oddsB (A 0) be T C (nI t) (nI a1) (nI d1) (nI e9) (nI y1) (nI z1)) tb ib Y X ws)) args s 0 0 (zA (gz g))) (F0 m 47 ls []) := by
        intro fu
        induction fu with
        | zero => intro v9 k H locs ls hfu hk hv hB hl; exact absurd hfu (Nat.not_lt_zero _)
        | succ fu ih47 =>
          intro v9 k H locs ls hfu hk hv hB hl
          refine lv_iload hE.x hE.b dX8_odds_47 (lv_at hl 0 rfl) ?_
          refine lv_iload hE.x hE.b dX8_odds_49 (lv_at hl 7 rfl) ?_
          refine z_gt (tgt := 79) (X := (((d1 + k) : Nat) : Int)) (Y := ((e9 : Nat) : Int)) hE dX8_odds_51 (by decide) (nI_toInt (n := (d1 + k)) (by omega)) (nI_toInt (n := e9) (by omega)) (fun c_11 => ?_) (fun c_11 => ?_)
          · have hxx : k = e9 + 1 - d1 := by omega
            subst hxx
            have hvk := cn_le (odP (A 0) C t (nI a1) d1 (nI y1) (nI z1)) (e9 + 1 - d1)
            have hok : oddsOK T (nI t) (nI a1) (nI d1) (nI e9) (nI y1) (nI z1) = true := by rw [od_ok, c_3, c_8]; rfl
            have hgp := Nat.gcd_pos_of_pos_right v9 (show 0 < e9 + 1 - d1 by omega)
            have hgl := Nat.gcd_le_right (m := v9) (show 0 < e9 + 1 - d1 by omega)
            refine lv_iload hE.x hE.b dX8_odds_79 (lv_at hl 7 rfl) ?_
            refine lv_iload_n hE.x hE.b dX8_odds_81 rfl (lv_at hl 6 rfl) ?_
            refine z_isubN hE (by omega) dX8_odds_82 ?_
            refine lv_iconst (v := nI 1) hE.x hE.b dX8_odds_83 rfl ?_
            refine z_iaddN hE dX8_odds_84 ?_
            refine z_top (y := (nI (e9 + 1 - d1))) (congrArg nI (by omega)) ?_
            refine lv_istore (lv' := [(9, .int (nI (e9 + 1 - d1))), (8, .int (nI v9)), (7, .int (nI (2 * y1 + z1))), (0, .ref x9), (1, .int (nI t)), (2, .int (nI a1)), (3, .int (nI d1)), (4, .int (nI e9)), (5, .int (nI y1)), (6, .int (nI z1))]) hE.x hE.b dX8_odds_85 hl (by decide) rfl (fun ls hl => ?_)
            refine lv_iload hE.x hE.b dX8_odds_87 (lv_at hl 1 rfl) ?_
            refine lv_iload hE.x hE.b dX8_odds_89 (lv_at hl 0 rfl) ?_
            refine z_qi hB (z_cS hE hB (c_X8_commonDivisor l g v9 (e9 + 1 - d1) (xW g x9 d rr im tx (nI ln) ab be (A 3 0) (A 3 1) (A 3 2) tb ib ++ (lW g d da (nI T) (nI C) (nI U) (nI V) rd ro lw pl pc gv aw nt ++ (Y ++ X))) (by omega) (by omega) (by omega)) q3_172 kX8_commonDivisor ⟨rfl, rfl⟩ ⟨Nat.le_of_ble_eq_true rfl, Nat.le_of_ble_eq_true rfl⟩ rfl hl.1 rfl (Nat.le_of_ble_eq_true rfl) dX8_odds_91 ⟨Nat.le_of_ble_eq_true rfl, Nat.le_of_ble_eq_true rfl⟩) (fun r_12 w_13 H locs hw hB => ?_)
            obtain ⟨hr9, hw9⟩ := hw
            have hr9 := hr9.symm
            subst hr9
            have hw9 := hw9.symm
            subst hw9
            refine lv_istore (lv' := [(10, .int (nI (Nat.gcd v9 (e9 + 1 - d1)))), (9, .int (nI (e9 + 1 - d1))), (8, .int (nI v9)), (7, .int (nI (2 * y1 + z1))), (0, .ref x9), (1, .int (nI t)), (2, .int (nI a1)), (3, .int (nI d1)), (4, .int (nI e9)), (5, .int (nI y1)), (6, .int (nI z1))]) hE.x hE.b dX8_odds_94 hl (by decide) rfl (fun ls hl => ?_)
            refine lv_aload_n hE.x hE.b dX8_odds_96 rfl (lv_at hl 4 rfl) ?_
            refine lv_iload hE.x hE.b dX8_odds_97 (lv_at hl 2 rfl) ?_
            refine lv_iload hE.x hE.b dX8_odds_99 (lv_at hl 0 rfl) ?_
            refine lv_idiv hE.x hE.b dX8_odds_101 (nI_ne0 (by omega) (by omega)) ?_
            refine z_top (y := (nI (v9 / (Nat.gcd v9 (e9 + 1 - d1))))) (pk_div (by omega) (by omega) (by omega)) ?_
            refine z_put (v := .int (nI (v9 / (Nat.gcd v9 (e9 + 1 - d1))))) (ty := .int) (ws' := xW g x9 d rr im tx (nI ln) (nI (v9 / (Nat.gcd v9 (e9 + 1 - d1)))) be (A 3 0) (A 3 1) (A 3 2) tb ib ++ (lW g d da (nI T) (nI C) (nI U) (nI V) rd ro lw pl pc gv aw nt ++ (Y ++ X))) hE hB inX8 tyX8 tyX8_ok nmX8 0 rfl rfl 5 (by decide) q1_84 (fun _ h9 => h9) rfl (by decide +kernel) rfl rfl (Nat.le_of_ble_eq_true rfl) rfl dX8_odds_102 (fun H locs hB => ?_)
            refine lv_aload_n hE.x hE.b dX8_odds_105 rfl (lv_at hl 4 rfl) ?_
            refine lv_iload hE.x hE.b dX8_odds_106 (lv_at hl 1 rfl) ?_
            refine lv_iload hE.x hE.b dX8_odds_108 (lv_at hl 0 rfl) ?_
            refine lv_idiv hE.x hE.b dX8_odds_110 (nI_ne0 (by omega) (by omega)) ?_
            refine z_top (y := (nI ((e9 + 1 - d1) / (Nat.gcd v9 (e9 + 1 - d1))))) (pk_div (by omega) (by omega) (by omega)) ?_
            refine z_put (v := .int (nI ((e9 + 1 - d1) / (Nat.gcd v9 (e9 + 1 - d1))))) (ty := .int) (ws' := xW g x9 d rr im tx (nI ln) (nI (v9 / (Nat.gcd v9 (e9 + 1 - d1)))) (nI ((e9 + 1 - d1) / (Nat.gcd v9 (e9 + 1 - d1)))) (A 3 0) (A 3 1) (A 3 2) tb ib ++ (lW g d da (nI T) (nI C) (nI U) (nI V) rd ro lw pl pc gv aw nt ++ (Y ++ X))) hE hB inX8 tyX8 tyX8_ok nmX8 0 rfl rfl 6 (by decide) q1_85 (fun _ h9 => h9) rfl (by decide +kernel) rfl rfl (Nat.le_of_ble_eq_true rfl) rfl dX8_odds_111 (fun H locs hB => ?_)
            refine lv_iconst (v := nI 1) hE.x hE.b dX8_odds_114 rfl ?_
            exact z_iret (v := (nI 1)) (ws := xW g x9 d rr im tx (nI ln) (nI (v9 / (Nat.gcd v9 (e9 + 1 - d1)))) (nI ((e9 + 1 - d1) / (Nat.gcd v9 (e9 + 1 - d1)))) (A 3 0) (A 3 1) (A 3 2) tb ib ++ (lW g d da (nI T) (nI C) (nI U) (nI V) rd ro lw pl pc gv aw nt ++ (Y ++ X))) hE hB hr (⟨(by rw [if_pos hok]), lS_i (A1 := A) T C U V rd ro lw pl pc gv aw nt Y (chk_t hok) (by unfold oddsA oddsB oddsN oddsM odV; rw [if_pos hok, if_pos hok, rc_i (show t < 1000 by omega), rc_i (show d1 < 1000 by omega), rc_i (show e9 < 1000 by omega), ← hv]) hn hrel (fun _ h => h)⟩) dX8_odds_115
          · have hvk := cn_le (odP (A 0) C t (nI a1) d1 (nI y1) (nI z1)) k
            refine lv_aload_n hE.x hE.b dX8_odds_54 rfl (lv_at hl 3 rfl) ?_
            refine z_get (v := .ref d) hE hB inX8 0 rfl rfl 0 (by decide) q1_79 (fun _ h9 => h9) rfl dX8_odds_55 ?_
            refine lv_iload_n hE.x hE.b dX8_odds_58 rfl (lv_at hl 4 rfl) ?_
            refine lv_iload_n hE.x hE.b dX8_odds_59 rfl (lv_at hl 5 rfl) ?_
            refine lv_iload hE.x hE.b dX8_odds_60 (lv_at hl 0 rfl) ?_
            refine lv_iload hE.x hE.b dX8_odds_62 (lv_at hl 2 rfl) ?_
            have hB := zB_perm hB (List.perm_append_comm_assoc _ _ _)
            refine z_qi hB (z_cV hE hB (c_X4_forbids l g d da T C U V rd ro lw pl pc gv aw nt t (nI a1) (nI (d1 + k)) (2 * y1 + z1) (A 0) Y (xW g x9 d rr im tx (nI ln) ab be (A 3 0) (A 3 1) (A 3 2) tb ib ++ (Y ++ X)) hn hrel (fun _ h => List.mem_append_right _ (List.mem_append_left _ h)) (by omega) (by omega)) q3_64 kX4_forbids ⟨rfl, rfl⟩ ⟨Nat.le_of_ble_eq_true rfl, Nat.le_of_ble_eq_true rfl⟩ 0 rfl rfl rfl hl.1 rfl (Nat.le_of_ble_eq_true rfl) dX8_odds_64 ⟨Nat.le_of_ble_eq_true rfl, Nat.le_of_ble_eq_true rfl⟩) (fun r_14 w_15 H locs hw hB => ?_)
            obtain ⟨hr9, hw9⟩ := hw
            have hr9 := hr9.symm
            subst hr9
            have hw9 := hw9.symm
            subst hw9
            refine z_top (y := (bI ((odP (A 0) C t (nI a1) d1 (nI y1) (nI z1)) k))) (by rw [show (2 * y1 + z1) / 2 = y1 by omega, show (2 * y1 + z1) % 2 = z1 by omega]; rfl) ?_
            refine z_bf (b := ((odP (A 0) C t (nI a1) d1 (nI y1) (nI z1)) k)) (tgt := 73) hE dX8_odds_67 (by decide) (fun c_16 => ?_) (fun c_16 => ?_)
            · refine lv_iinc (v := (nI ((d1 + k) + 1))) (lv' := [(9, .int (nI ((d1 + k) + 1))), (8, .int (nI v9)), (7, .int (nI (2 * y1 + z1))), (0, .ref x9), (1, .int (nI t)), (2, .int (nI a1)), (3, .int (nI d1)), (4, .int (nI e9)), (5, .int (nI y1)), (6, .int (nI z1))]) hE.x hE.b dX8_odds_73 hl (k := 0) rfl (nI_add _ _) (by decide) rfl (fun ls hl => ?_)
              refine lv_goto (tgt := 47) hE.x hE.b dX8_odds_76 (by decide) ?_
              have hB := zB_perm hB (List.perm_append_comm_assoc _ _ _)
              exact ih47 v9 (k + 1) _ _ _ (by omega) (by omega) (by rw [cn_f (P := (odP (A 0) C t (nI a1) d1 (nI y1) (nI z1))) c_16, hv]) hB hl
            · refine lv_iinc (v := (nI (v9 + 1))) (lv' := [(8, .int (nI (v9 + 1))), (9, .int (nI (d1 + k))), (7, .int (nI (2 * y1 + z1))), (0, .ref x9), (1, .int (nI t)), (2, .int (nI a1)), (3, .int (nI d1)), (4, .int (nI e9)), (5, .int (nI y1)), (6, .int (nI z1))]) hE.x hE.b dX8_odds_70 hl (k := 1) rfl (nI_add _ _) (by decide) rfl (fun ls hl => ?_)
              refine lv_iinc (v := (nI ((d1 + k) + 1))) (lv' := [(9, .int (nI ((d1 + k) + 1))), (8, .int (nI (v9 + 1))), (7, .int (nI (2 * y1 + z1))), (0, .ref x9), (1, .int (nI t)), (2, .int (nI a1)), (3, .int (nI d1)), (4, .int (nI e9)), (5, .int (nI y1)), (6, .int (nI z1))]) hE.x hE.b dX8_odds_73 hl (k := 1) rfl (nI_add _ _) (by decide) rfl (fun ls hl => ?_)
              refine lv_goto (tgt := 47) hE.x hE.b dX8_odds_76 (by decide) ?_
              have hB := zB_perm hB (List.perm_append_comm_assoc _ _ _)
              exact ih47 (v9 + 1) (k + 1) _ _ _ (by omega) (by omega) (by rw [cn_t (P := (odP (A 0) C t (nI a1) d1 (nI y1) (nI z1))) c_16, hv]) hB hl
      exact k47 (e9 + 1 - (d1 + 0) + 1) 0 0 _ _ _ (Nat.lt_succ_self _) (by omega) rfl hB hl
    · refine lv_aload_n hE.x hE.b dX8_odds_25 rfl (lv_at hl 0 rfl) ?_
      refine lv_bipush (v := (-2)) hE.x hE.b dX8_odds_26 rfl ?_
      refine z_qi hB (z_cV hE hB (c_X8_bad l g x9 d rr im tx (nI ln) ab be (A 3 0) (A 3 1) (A 3 2) tb ib (-2) (lW g d da (nI T) (nI C) (nI U) (nI V) rd ro lw pl pc gv aw nt ++ (Y ++ X))) q1_126 kX8_bad ⟨rfl, rfl⟩ ⟨Nat.le_of_ble_eq_true rfl, Nat.le_of_ble_eq_true rfl⟩ 0 rfl rfl rfl hl.1 rfl (Nat.le_of_ble_eq_true rfl) dX8_odds_28 ⟨Nat.le_of_ble_eq_true rfl, Nat.le_of_ble_eq_true rfl⟩) (fun r_17 w_18 H locs hw hB => ?_)
      obtain ⟨hr9, hw9⟩ := hw
      have hr9 := hr9.symm
      subst hr9
      have hw9 := hw9.symm
      subst hw9
      exact z_iret (v := (-2)) (ws := xW g x9 d rr im tx (nI ln) ab be ((A 3 0) + nI 1) (A 3 1) (A 3 2) tb ib ++ (lW g d da (nI T) (nI C) (nI U) (nI V) rd ro lw pl pc gv aw nt ++ (Y ++ X))) hE hB hr (⟨(by rw [if_neg (by rw [(show oddsOK T tw ac dq dr dy sh = false by rw [od_ok]; simp [c_3, c_8])]; decide)]), lS_i (A1 := bump 0 A) T C U V rd ro lw pl pc gv aw nt Y (chk_f (show oddsOK T tw ac dq dr dy sh = false by rw [od_ok]; simp [c_3, c_8])) (by unfold oddsA oddsB; rw [(show oddsOK T tw ac dq dr dy sh = false by rw [od_ok]; simp [c_3, c_8])]; rfl) hn hrel (fun _ h => h)⟩) dX8_odds_31

set_option maxHeartbeats 4000000 in
set_option maxRecDepth 100000 in
theorem c_X8_drawn (l : Launch) (g : zG) (x9 : Nat) (d : Nat) (rr : Nat) (im : Nat) (tx : Nat) (ab : Int32) (be : Int32) (tb : Nat → Int32) (ib : Nat → Option Nat) (da : Nat → Nat) (T : Nat) (C : Nat) (U : Nat) (V : Nat) (rd : Nat → Int32) (ro : Nat → Int32) (lw : Nat → Option Nat) (pl : Nat → Option Nat) (pc : Nat → Int32) (gv : Nat → Int32) (aw : Nat → Int32) (nt : Nat → Int32) (A : Nat → Nat → Int32) (ln : Nat) (sd : Int32) (q9 : Int32) (Y : va_W) (X : va_W) (hn : nOK (A 0) T C V U) (hrel : relL (A 0) T C U V rd ro lw pl pc gv Y) : Met l yX8_drawn (Cond.code yX8_drawn cX8_drawn 11 (some .int) :: TBL) { frames := 4, cells := 0, slots := 0, locals := 92 } (zPc [.ref x9, .int sd, .int q9] g (xW g x9 d rr im tx (nI ln) ab be (A 3 0) (A 3 1) (A 3 2) tb ib ++ (lW g d da (nI T) (nI C) (nI U) (nI V) rd ro lw pl pc gv aw nt ++ (Y ++ X)))) (zQi g (fun r ws => r = (drawnR (A 0) T C sd q9) ∧ lS g x9 d da rr im tx (chk (drawnOK sd q9) A) ln ab be tb ib Y X ws)) 0 0 (zA (gz g)) := by
  refine z_start (by decide +kernel) rfl (Nat.le_of_ble_eq_true rfl) ?_
  intro p e s m args below meth c ls hE hr hnm hB hl
  have hl : lv_has ls 11 [(0, .ref x9), (1, .int sd), (2, .int q9)] := hl
  revert hB
  generalize s.heap = H
  generalize ([] : List Loc) = locs
  intro hB
  have hT6 := hn.T6
  have hC8 := hn.C8
  have hV8 := hn.V8
  have hU8 := hn.U8
  refine lv_iload_n hE.x hE.b dX8_drawn_0 rfl (lv_at hl 1 rfl) ?_
  refine lv_iconst (v := nI 0) hE.x hE.b dX8_drawn_1 rfl ?_
  refine lv_ldc (v := (nI 999999)) hE.x hE.b hE.o (hE.t _ q3_179) dX8_drawn_2 ?_
  refine z_qi hB (z_cS hE hB (c_X8_within l g sd (nI 0) (nI 999999) sd.toInt (0 : Int) (999999 : Int) (xW g x9 d rr im tx (nI ln) ab be (A 3 0) (A 3 1) (A 3 2) tb ib ++ (lW g d da (nI T) (nI C) (nI U) (nI V) rd ro lw pl pc gv aw nt ++ (Y ++ X))) rfl rfl rfl) q1_123 kX8_within ⟨rfl, rfl⟩ ⟨Nat.le_of_ble_eq_true rfl, Nat.le_of_ble_eq_true rfl⟩ rfl hl.1 rfl (Nat.le_of_ble_eq_true rfl) dX8_drawn_4 ⟨Nat.le_of_ble_eq_true rfl, Nat.le_of_ble_eq_true rfl⟩) (fun r_1 w_2 H locs hw hB => ?_)
  obtain ⟨hr9, hw9⟩ := hw
  have hr9 := hr9.symm
  subst hr9
  have hw9 := hw9.symm
  subst hw9
  refine z_bf (b := (inZ (0 : Int) (999999 : Int) sd.toInt)) (tgt := 20) hE dX8_drawn_7 (by decide) (fun c_3 => ?_) (fun c_3 => ?_)
  · refine lv_aload_n hE.x hE.b dX8_drawn_20 rfl (lv_at hl 0 rfl) ?_
    refine lv_bipush (v := (-2)) hE.x hE.b dX8_drawn_21 rfl ?_
    refine z_qi hB (z_cV hE hB (c_X8_bad l g x9 d rr im tx (nI ln) ab be (A 3 0) (A 3 1) (A 3 2) tb ib (-2) (lW g d da (nI T) (nI C) (nI U) (nI V) rd ro lw pl pc gv aw nt ++ (Y ++ X))) q1_126 kX8_bad ⟨rfl, rfl⟩ ⟨Nat.le_of_ble_eq_true rfl, Nat.le_of_ble_eq_true rfl⟩ 0 rfl rfl rfl hl.1 rfl (Nat.le_of_ble_eq_true rfl) dX8_drawn_23 ⟨Nat.le_of_ble_eq_true rfl, Nat.le_of_ble_eq_true rfl⟩) (fun r_4 w_5 H locs hw hB => ?_)
    obtain ⟨hr9, hw9⟩ := hw
    have hr9 := hr9.symm
    subst hr9
    have hw9 := hw9.symm
    subst hw9
    exact z_iret (v := (-2)) (ws := xW g x9 d rr im tx (nI ln) ab be ((A 3 0) + nI 1) (A 3 1) (A 3 2) tb ib ++ (lW g d da (nI T) (nI C) (nI U) (nI V) rd ro lw pl pc gv aw nt ++ (Y ++ X))) hE hB hr (⟨(by unfold drawnR; rw [if_neg (by rw [(show drawnOK sd q9 = false by unfold drawnOK pIn; simp [c_3])]; decide)]), lS_i (A1 := bump 0 A) T C U V rd ro lw pl pc gv aw nt Y (chk_f (show drawnOK sd q9 = false by unfold drawnOK pIn; simp [c_3])) rfl hn hrel (fun _ h => h)⟩) dX8_drawn_26
  · refine lv_iload_n hE.x hE.b dX8_drawn_10 rfl (lv_at hl 2 rfl) ?_
    refine lv_iconst (v := nI 0) hE.x hE.b dX8_drawn_11 rfl ?_
    refine lv_bipush (v := (nI 60)) hE.x hE.b dX8_drawn_12 rfl ?_
    refine z_qi hB (z_cS hE hB (c_X8_within l g q9 (nI 0) (nI 60) q9.toInt (0 : Int) (60 : Int) (xW g x9 d rr im tx (nI ln) ab be (A 3 0) (A 3 1) (A 3 2) tb ib ++ (lW g d da (nI T) (nI C) (nI U) (nI V) rd ro lw pl pc gv aw nt ++ (Y ++ X))) rfl rfl rfl) q1_123 kX8_within ⟨rfl, rfl⟩ ⟨Nat.le_of_ble_eq_true rfl, Nat.le_of_ble_eq_true rfl⟩ rfl hl.1 rfl (Nat.le_of_ble_eq_true rfl) dX8_drawn_14 ⟨Nat.le_of_ble_eq_true rfl, Nat.le_of_ble_eq_true rfl⟩) (fun r_6 w_7 H locs hw hB => ?_)
    obtain ⟨hr9, hw9⟩ := hw
    have hr9 := hr9.symm
    subst hr9
    have hw9 := hw9.symm
    subst hw9
    refine z_bt (b := (inZ (0 : Int) (60 : Int) q9.toInt)) (tgt := 27) hE dX8_drawn_17 (by decide) (fun c_8 => ?_) (fun c_8 => ?_)
    · refine lv_aload_n hE.x hE.b dX8_drawn_27 rfl (lv_at hl 0 rfl) ?_
      refine z_get (v := .ref d) hE hB inX8 0 rfl rfl 0 (by decide) q1_79 (fun _ h9 => h9) rfl dX8_drawn_28 ?_
      refine z_get (v := .int (nI T)) hE hB inX4 3 rfl rfl 0 (by decide) q1_34 (fun _ h9 => h9) rfl dX8_drawn_31 ?_
      refine z_gt0 (tgt := 39) (X := ((T : Nat) : Int)) hE dX8_drawn_34 (by decide) (nI_toInt (n := T) (by omega)) (fun c_9 => ?_) (fun c_9 => ?_)
      · obtain ⟨s9, hs9, rfl⟩ := pIn_nI (hi := 999999) (x := sd) c_3 (by omega)
        obtain ⟨q, hq, rfl⟩ := pIn_nI (hi := 60) (x := q9) c_8 (by omega)
        refine lv_iload_n hE.x hE.b dX8_drawn_39 rfl (lv_at hl 1 rfl) ?_
        refine lv_i2l (v := lN s9) hE.x hE.b dX8_drawn_40 (nI_l (by omega)) ?_
        refine lv_lstore_n (lv' := [(3, .long (lN s9)), (0, .ref x9), (1, .int (nI s9)), (2, .int (nI q))]) hE.x hE.b dX8_drawn_41 rfl hl (by decide) rfl (fun ls hl => ?_)
        refine lv_iconst (v := nI 0) hE.x hE.b dX8_drawn_42 rfl ?_
        refine lv_istore (lv' := [(5, .int (nI 0)), (3, .long (lN s9)), (0, .ref x9), (1, .int (nI s9)), (2, .int (nI q))]) hE.x hE.b dX8_drawn_43 hl (by decide) rfl (fun ls hl => ?_)
        refine lv_iconst (v := nI 0) hE.x hE.b dX8_drawn_45 rfl ?_
        refine lv_istore (lv' := [(6, .int (nI 0)), (5, .int (nI 0)), (3, .long (lN s9)), (0, .ref x9), (1, .int (nI s9)), (2, .int (nI q))]) hE.x hE.b dX8_drawn_46 hl (by decide) rfl (fun ls hl => ?_)
        have k48 : ∀ (fu : Nat) (i : Nat) (v9 : Nat) (H : Heap) (locs : List Loc) (ls : Array Slot), q - i < fu → (i ≤ q) → (v9 = cn (drP (A 0) T C s9) i) → zB g s (xW g x9 d rr im tx (nI ln) ab be (A 3 0) (A 3 1) (A 3 2) tb ib ++ (lW g d da (nI T) (nI C) (nI U) (nI V) rd ro lw pl pc gv aw nt ++ (Y ++ X))) H locs → lv_has ls 11 [(6, .int (nI i)), (5, .int (nI v9)), (3, .long (lN (drX s9 i))), (0, .ref x9), (1, .int (nI s9)), (2, .int (nI q))] → W p l e { frames := 4, cells := 0, slots := 0, locals := 92 } s m args below meth c H locs 0 0 (MQ below (zQi g (fun r ws => r = (drawnR (A 0) T C (nI s9) (nI q)) ∧ lS g x9 d da rr im tx (chk (drawnOK (nI s9) (nI q)) A) ln ab be tb ib Y X ws)) args s 0 0 (zA (gz g))) (F0 m 48 ls []) := by
          intro fu
          induction fu with
          | zero => intro i v9 H locs ls hfu hi hv hB hl; exact absurd hfu (Nat.not_lt_zero _)
          | succ fu ih48 =>
            intro i v9 H locs ls hfu hi hv hB hl
            refine lv_iload hE.x hE.b dX8_drawn_48 (lv_at hl 0 rfl) ?_
            refine lv_iload_n hE.x hE.b dX8_drawn_50 rfl (lv_at hl 5 rfl) ?_
            refine z_ge (tgt := 137) (X := ((i : Nat) : Int)) (Y := ((q : Nat) : Int)) hE dX8_drawn_51 (by decide) (nI_toInt (n := i) (by omega)) (nI_toInt (n := q) (by omega)) (fun c_10 => ?_) (fun c_10 => ?_)
            · refine lv_iload hE.x hE.b dX8_drawn_137 (lv_at hl 1 rfl) ?_
              exact z_iret (v := (nI v9)) (ws := xW g x9 d rr im tx (nI ln) ab be (A 3 0) (A 3 1) (A 3 2) tb ib ++ (lW g d da (nI T) (nI C) (nI U) (nI V) rd ro lw pl pc gv aw nt ++ (Y ++ X))) hE hB hr (⟨(by unfold drawnR; rw [if_pos (show drawnOK (nI s9) (nI q) = true by unfold drawnOK pIn; rw [c_3, c_8]; rfl), if_neg (by omega), rcl (show s9 < 2 ^ 31 by omega), rcl (show q < 2 ^ 31 by omega), hv, show i = q by omega]), lS_i (A1 := A) T C U V rd ro lw pl pc gv aw nt Y (chk_t (show drawnOK (nI s9) (nI q) = true by unfold drawnOK pIn; rw [c_3, c_8]; rfl)) rfl hn hrel (fun _ h => h)⟩) dX8_drawn_139
            · have x0 : (drX s9 i) < 2147483648 := drX_lt (by omega) i
              have x1 := nxt_lt (drX s9 i)
              have x2 := nxt_lt (nxt (drX s9 i))
              have x3 := nxt_lt (nxt (nxt (drX s9 i)))
              have x4 := nxt_lt (nxt (nxt (nxt (drX s9 i))))
              have m1 := Nat.mod_lt ((nxt (drX s9 i)) / 65536) (show 0 < T by omega)
              have m4 := Nat.mod_lt ((nxt (nxt (nxt (nxt (drX s9 i))))) / 65536) (show 0 < 4 by omega)
              refine lv_lload_n hE.x hE.b dX8_drawn_54 rfl (lv_at hl 2 rfl) ?_
              refine z_ql hB (z_cS hE hB (c_X8_nextDrawn l g (drX s9 i) (xW g x9 d rr im tx (nI ln) ab be (A 3 0) (A 3 1) (A 3 2) tb ib ++ (lW g d da (nI T) (nI C) (nI U) (nI V) rd ro lw pl pc gv aw nt ++ (Y ++ X))) (by omega)) q3_180 kX8_nextDrawn ⟨rfl, rfl⟩ ⟨Nat.le_of_ble_eq_true rfl, Nat.le_of_ble_eq_true rfl⟩ rfl hl.1 rfl (Nat.le_of_ble_eq_true rfl) dX8_drawn_55 ⟨Nat.le_of_ble_eq_true rfl, Nat.le_of_ble_eq_true rfl⟩) (fun r_11 w_12 H locs hw hB => ?_)
              obtain ⟨hr9, hw9⟩ := hw
              have hr9 := hr9.symm
              subst hr9
              have hw9 := hw9.symm
              subst hw9
              refine lv_lstore_n (lv' := [(3, .long (lN (nxt (drX s9 i)))), (6, .int (nI i)), (5, .int (nI v9)), (0, .ref x9), (1, .int (nI s9)), (2, .int (nI q))]) hE.x hE.b dX8_drawn_58 rfl hl (by decide) rfl (fun ls hl => ?_)
              refine lv_lload_n hE.x hE.b dX8_drawn_59 rfl (lv_at hl 0 rfl) ?_
              refine lv_aload_n hE.x hE.b dX8_drawn_60 rfl (lv_at hl 3 rfl) ?_
              refine z_get (v := .ref d) hE hB inX8 0 rfl rfl 0 (by decide) q1_79 (fun _ h9 => h9) rfl dX8_drawn_61 ?_
              refine z_get (v := .int (nI T)) hE hB inX4 3 rfl rfl 0 (by decide) q1_34 (fun _ h9 => h9) rfl dX8_drawn_64 ?_
              refine z_qi hB (z_cS hE hB (c_X8_leftOver l g (nxt (drX s9 i)) T (xW g x9 d rr im tx (nI ln) ab be (A 3 0) (A 3 1) (A 3 2) tb ib ++ (lW g d da (nI T) (nI C) (nI U) (nI V) rd ro lw pl pc gv aw nt ++ (Y ++ X))) (by omega) (by omega) (by omega)) q3_186 kX8_leftOver ⟨rfl, rfl⟩ ⟨Nat.le_of_ble_eq_true rfl, Nat.le_of_ble_eq_true rfl⟩ rfl hl.1 rfl (Nat.le_of_ble_eq_true rfl) dX8_drawn_67 ⟨Nat.le_of_ble_eq_true rfl, Nat.le_of_ble_eq_true rfl⟩) (fun r_13 w_14 H locs hw hB => ?_)
              obtain ⟨hr9, hw9⟩ := hw
              have hr9 := hr9.symm
              subst hr9
              have hw9 := hw9.symm
              subst hw9
              refine lv_istore (lv' := [(7, .int (nI ((nxt (drX s9 i)) / 65536 % T))), (3, .long (lN (nxt (drX s9 i)))), (6, .int (nI i)), (5, .int (nI v9)), (0, .ref x9), (1, .int (nI s9)), (2, .int (nI q))]) hE.x hE.b dX8_drawn_70 hl (by decide) rfl (fun ls hl => ?_)
              refine lv_lload_n hE.x hE.b dX8_drawn_72 rfl (lv_at hl 1 rfl) ?_
              refine z_ql hB (z_cS hE hB (c_X8_nextDrawn l g (nxt (drX s9 i)) (xW g x9 d rr im tx (nI ln) ab be (A 3 0) (A 3 1) (A 3 2) tb ib ++ (lW g d da (nI T) (nI C) (nI U) (nI V) rd ro lw pl pc gv aw nt ++ (Y ++ X))) (by omega)) q3_180 kX8_nextDrawn ⟨rfl, rfl⟩ ⟨Nat.le_of_ble_eq_true rfl, Nat.le_of_ble_eq_true rfl⟩ rfl hl.1 rfl (Nat.le_of_ble_eq_true rfl) dX8_drawn_73 ⟨Nat.le_of_ble_eq_true rfl, Nat.le_of_ble_eq_true rfl⟩) (fun r_15 w_16 H locs hw hB => ?_)
              obtain ⟨hr9, hw9⟩ := hw
              have hr9 := hr9.symm
              subst hr9
              have hw9 := hw9.symm
              subst hw9
              refine lv_lstore_n (lv' := [(3, .long (lN (nxt (nxt (drX s9 i))))), (7, .int (nI ((nxt (drX s9 i)) / 65536 % T))), (6, .int (nI i)), (5, .int (nI v9)), (0, .ref x9), (1, .int (nI s9)), (2, .int (nI q))]) hE.x hE.b dX8_drawn_76 rfl hl (by decide) rfl (fun ls hl => ?_)
              refine lv_lload_n hE.x hE.b dX8_drawn_77 rfl (lv_at hl 0 rfl) ?_
              refine lv_bipush (v := (nI 6)) hE.x hE.b dX8_drawn_78 rfl ?_
              refine z_qi hB (z_cS hE hB (c_X8_leftOver l g (nxt (nxt (drX s9 i))) 6 (xW g x9 d rr im tx (nI ln) ab be (A 3 0) (A 3 1) (A 3 2) tb ib ++ (lW g d da (nI T) (nI C) (nI U) (nI V) rd ro lw pl pc gv aw nt ++ (Y ++ X))) (by omega) (by omega) (by omega)) q3_186 kX8_leftOver ⟨rfl, rfl⟩ ⟨Nat.le_of_ble_eq_true rfl, Nat.le_of_ble_eq_true rfl⟩ rfl hl.1 rfl (Nat.le_of_ble_eq_true rfl) dX8_drawn_80 ⟨Nat.le_of_ble_eq_true rfl, Nat.le_of_ble_eq_true rfl⟩) (fun r_17 w_18 H locs hw hB => ?_)
              obtain ⟨hr9, hw9⟩ := hw
              have hr9 := hr9.symm
              subst hr9
              have hw9 := hw9.symm
              subst hw9
              refine lv_istore (lv' := [(8, .int (nI ((nxt (nxt (drX s9 i))) / 65536 % 6))), (3, .long (lN (nxt (nxt (drX s9 i))))), (7, .int (nI ((nxt (drX s9 i)) / 65536 % T))), (6, .int (nI i)), (5, .int (nI v9)), (0, .ref x9), (1, .int (nI s9)), (2, .int (nI q))]) hE.x hE.b dX8_drawn_83 hl (by decide) rfl (fun ls hl => ?_)
              refine lv_lload_n hE.x hE.b dX8_drawn_85 rfl (lv_at hl 1 rfl) ?_
              refine z_ql hB (z_cS hE hB (c_X8_nextDrawn l g (nxt (nxt (drX s9 i))) (xW g x9 d rr im tx (nI ln) ab be (A 3 0) (A 3 1) (A 3 2) tb ib ++ (lW g d da (nI T) (nI C) (nI U) (nI V) rd ro lw pl pc gv aw nt ++ (Y ++ X))) (by omega)) q3_180 kX8_nextDrawn ⟨rfl, rfl⟩ ⟨Nat.le_of_ble_eq_true rfl, Nat.le_of_ble_eq_true rfl⟩ rfl hl.1 rfl (Nat.le_of_ble_eq_true rfl) dX8_drawn_86 ⟨Nat.le_of_ble_eq_true rfl, Nat.le_of_ble_eq_true rfl⟩) (fun r_19 w_20 H locs hw hB => ?_)
              obtain ⟨hr9, hw9⟩ := hw
              have hr9 := hr9.symm
              subst hr9
              have hw9 := hw9.symm
              subst hw9
              refine lv_lstore_n (lv' := [(3, .long (lN (nxt (nxt (nxt (drX s9 i)))))), (8, .int (nI ((nxt (nxt (drX s9 i))) / 65536 % 6))), (7, .int (nI ((nxt (drX s9 i)) / 65536 % T))), (6, .int (nI i)), (5, .int (nI v9)), (0, .ref x9), (1, .int (nI s9)), (2, .int (nI q))]) hE.x hE.b dX8_drawn_89 rfl hl (by decide) rfl (fun ls hl => ?_)
              refine lv_lload_n hE.x hE.b dX8_drawn_90 rfl (lv_at hl 0 rfl) ?_
              refine lv_bipush (v := (nI 60)) hE.x hE.b dX8_drawn_91 rfl ?_
              refine z_qi hB (z_cS hE hB (c_X8_leftOver l g (nxt (nxt (nxt (drX s9 i)))) 60 (xW g x9 d rr im tx (nI ln) ab be (A 3 0) (A 3 1) (A 3 2) tb ib ++ (lW g d da (nI T) (nI C) (nI U) (nI V) rd ro lw pl pc gv aw nt ++ (Y ++ X))) (by omega) (by omega) (by omega)) q3_186 kX8_leftOver ⟨rfl, rfl⟩ ⟨Nat.le_of_ble_eq_true rfl, Nat.le_of_ble_eq_true rfl⟩ rfl hl.1 rfl (Nat.le_of_ble_eq_true rfl) dX8_drawn_93 ⟨Nat.le_of_ble_eq_true rfl, Nat.le_of_ble_eq_true rfl⟩) (fun r_21 w_22 H locs hw hB => ?_)
              obtain ⟨hr9, hw9⟩ := hw
              have hr9 := hr9.symm
              subst hr9
              have hw9 := hw9.symm
              subst hw9
              refine lv_istore (lv' := [(9, .int (nI ((nxt (nxt (nxt (drX s9 i)))) / 65536 % 60))), (3, .long (lN (nxt (nxt (nxt (drX s9 i)))))), (8, .int (nI ((nxt (nxt (drX s9 i))) / 65536 % 6))), (7, .int (nI ((nxt (drX s9 i)) / 65536 % T))), (6, .int (nI i)), (5, .int (nI v9)), (0, .ref x9), (1, .int (nI s9)), (2, .int (nI q))]) hE.x hE.b dX8_drawn_96 hl (by decide) rfl (fun ls hl => ?_)
              refine lv_lload_n hE.x hE.b dX8_drawn_98 rfl (lv_at hl 1 rfl) ?_
              refine z_ql hB (z_cS hE hB (c_X8_nextDrawn l g (nxt (nxt (nxt (drX s9 i)))) (xW g x9 d rr im tx (nI ln) ab be (A 3 0) (A 3 1) (A 3 2) tb ib ++ (lW g d da (nI T) (nI C) (nI U) (nI V) rd ro lw pl pc gv aw nt ++ (Y ++ X))) (by omega)) q3_180 kX8_nextDrawn ⟨rfl, rfl⟩ ⟨Nat.le_of_ble_eq_true rfl, Nat.le_of_ble_eq_true rfl⟩ rfl hl.1 rfl (Nat.le_of_ble_eq_true rfl) dX8_drawn_99 ⟨Nat.le_of_ble_eq_true rfl, Nat.le_of_ble_eq_true rfl⟩) (fun r_23 w_24 H locs hw hB => ?_)
              obtain ⟨hr9, hw9⟩ := hw
              have hr9 := hr9.symm
              subst hr9
              have hw9 := hw9.symm
              subst hw9
              refine lv_lstore_n (lv' := [(3, .long (lN (nxt (nxt (nxt (nxt (drX s9 i))))))), (9, .int (nI ((nxt (nxt (nxt (drX s9 i)))) / 65536 % 60))), (8, .int (nI ((nxt (nxt (drX s9 i))) / 65536 % 6))), (7, .int (nI ((nxt (drX s9 i)) / 65536 % T))), (6, .int (nI i)), (5, .int (nI v9)), (0, .ref x9), (1, .int (nI s9)), (2, .int (nI q))]) hE.x hE.b dX8_drawn_102 rfl hl (by decide) rfl (fun ls hl => ?_)
              refine lv_lload_n hE.x hE.b dX8_drawn_103 rfl (lv_at hl 0 rfl) ?_
              refine lv_iconst (v := nI 4) hE.x hE.b dX8_drawn_104 rfl ?_
              refine z_qi hB (z_cS hE hB (c_X8_leftOver l g (nxt (nxt (nxt (nxt (drX s9 i))))) 4 (xW g x9 d rr im tx (nI ln) ab be (A 3 0) (A 3 1) (A 3 2) tb ib ++ (lW g d da (nI T) (nI C) (nI U) (nI V) rd ro lw pl pc gv aw nt ++ (Y ++ X))) (by omega) (by omega) (by omega)) q3_186 kX8_leftOver ⟨rfl, rfl⟩ ⟨Nat.le_of_ble_eq_true rfl, Nat.le_of_ble_eq_true rfl⟩ rfl hl.1 rfl (Nat.le_of_ble_eq_true rfl) dX8_drawn_105 ⟨Nat.le_of_ble_eq_true rfl, Nat.le_of_ble_eq_true rfl⟩) (fun r_25 w_26 H locs hw hB => ?_)
              obtain ⟨hr9, hw9⟩ := hw
              have hr9 := hr9.symm
              subst hr9
              have hw9 := hw9.symm
              subst hw9
              refine lv_istore (lv' := [(10, .int (nI ((nxt (nxt (nxt (nxt (drX s9 i))))) / 65536 % 4))), (3, .long (lN (nxt (nxt (nxt (nxt (drX s9 i))))))), (9, .int (nI ((nxt (nxt (nxt (drX s9 i)))) / 65536 % 60))), (8, .int (nI ((nxt (nxt (drX s9 i))) / 65536 % 6))), (7, .int (nI ((nxt (drX s9 i)) / 65536 % T))), (6, .int (nI i)), (5, .int (nI v9)), (0, .ref x9), (1, .int (nI s9)), (2, .int (nI q))]) hE.x hE.b dX8_drawn_108 hl (by decide) rfl (fun ls hl => ?_)
              refine lv_aload_n hE.x hE.b dX8_drawn_110 rfl (lv_at hl 7 rfl) ?_
              refine z_get (v := .ref d) hE hB inX8 0 rfl rfl 0 (by decide) q1_79 (fun _ h9 => h9) rfl dX8_drawn_111 ?_
              refine lv_iload hE.x hE.b dX8_drawn_114 (lv_at hl 4 rfl) ?_
              refine lv_iload hE.x hE.b dX8_drawn_116 (lv_at hl 3 rfl) ?_
              refine lv_iload hE.x hE.b dX8_drawn_118 (lv_at hl 2 rfl) ?_
              refine lv_iload hE.x hE.b dX8_drawn_120 (lv_at hl 0 rfl) ?_
              have hB := zB_perm hB (List.perm_append_comm_assoc _ _ _)
              refine z_qi hB (z_cV hE hB (c_X4_forbids l g d da T C U V rd ro lw pl pc gv aw nt ((nxt (drX s9 i)) / 65536 % T) (nI ((nxt (nxt (drX s9 i))) / 65536 % 6)) (nI ((nxt (nxt (nxt (drX s9 i)))) / 65536 % 60)) ((nxt (nxt (nxt (nxt (drX s9 i))))) / 65536 % 4) (A 0) Y (xW g x9 d rr im tx (nI ln) ab be (A 3 0) (A 3 1) (A 3 2) tb ib ++ (Y ++ X)) hn hrel (fun _ h => List.mem_append_right _ (List.mem_append_left _ h)) (by omega) (by omega)) q3_64 kX4_forbids ⟨rfl, rfl⟩ ⟨Nat.le_of_ble_eq_true rfl, Nat.le_of_ble_eq_true rfl⟩ 0 rfl rfl rfl hl.1 rfl (Nat.le_of_ble_eq_true rfl) dX8_drawn_122 ⟨Nat.le_of_ble_eq_true rfl, Nat.le_of_ble_eq_true rfl⟩) (fun r_27 w_28 H locs hw hB => ?_)
              obtain ⟨hr9, hw9⟩ := hw
              have hr9 := hr9.symm
              subst hr9
              have hw9 := hw9.symm
              subst hw9
              refine z_top (y := (bI (!(drP (A 0) T C s9) i))) rfl ?_
              refine z_bt (b := (!(drP (A 0) T C s9) i)) (tgt := 131) hE dX8_drawn_125 (by decide) (fun c_29 => ?_) (fun c_29 => ?_)
              · refine lv_iinc (v := (nI (i + 1))) (lv' := [(6, .int (nI (i + 1))), (10, .int (nI ((nxt (nxt (nxt (nxt (drX s9 i))))) / 65536 % 4))), (3, .long (lN (nxt (nxt (nxt (nxt (drX s9 i))))))), (9, .int (nI ((nxt (nxt (nxt (drX s9 i)))) / 65536 % 60))), (8, .int (nI ((nxt (nxt (drX s9 i))) / 65536 % 6))), (7, .int (nI ((nxt (drX s9 i)) / 65536 % T))), (5, .int (nI v9)), (0, .ref x9), (1, .int (nI s9)), (2, .int (nI q))]) hE.x hE.b dX8_drawn_131 hl (k := 5) rfl (nI_add _ _) (by decide) rfl (fun ls hl => ?_)
                refine lv_goto (tgt := 48) hE.x hE.b dX8_drawn_134 (by decide) ?_
                have hB := zB_perm hB (List.perm_append_comm_assoc _ _ _)
                exact ih48 (i + 1) v9 _ _ _ (by omega) (by omega) (by rw [cn_f (P := (drP (A 0) T C s9)) (by simpa using c_29), hv]) hB (lv_sub hl [0, 6, 2, 7, 8, 9] rfl)
              · refine lv_iinc (v := (nI (v9 + 1))) (lv' := [(5, .int (nI (v9 + 1))), (10, .int (nI ((nxt (nxt (nxt (nxt (drX s9 i))))) / 65536 % 4))), (3, .long (lN (nxt (nxt (nxt (nxt (drX s9 i))))))), (9, .int (nI ((nxt (nxt (nxt (drX s9 i)))) / 65536 % 60))), (8, .int (nI ((nxt (nxt (drX s9 i))) / 65536 % 6))), (7, .int (nI ((nxt (drX s9 i)) / 65536 % T))), (6, .int (nI i)), (0, .ref x9), (1, .int (nI s9)), (2, .int (nI q))]) hE.x hE.b dX8_drawn_128 hl (k := 6) rfl (nI_add _ _) (by decide) rfl (fun ls hl => ?_)
                refine lv_iinc (v := (nI (i + 1))) (lv' := [(6, .int (nI (i + 1))), (5, .int (nI (v9 + 1))), (10, .int (nI ((nxt (nxt (nxt (nxt (drX s9 i))))) / 65536 % 4))), (3, .long (lN (nxt (nxt (nxt (nxt (drX s9 i))))))), (9, .int (nI ((nxt (nxt (nxt (drX s9 i)))) / 65536 % 60))), (8, .int (nI ((nxt (nxt (drX s9 i))) / 65536 % 6))), (7, .int (nI ((nxt (drX s9 i)) / 65536 % T))), (0, .ref x9), (1, .int (nI s9)), (2, .int (nI q))]) hE.x hE.b dX8_drawn_131 hl (k := 6) rfl (nI_add _ _) (by decide) rfl (fun ls hl => ?_)
                refine lv_goto (tgt := 48) hE.x hE.b dX8_drawn_134 (by decide) ?_
                have hB := zB_perm hB (List.perm_append_comm_assoc _ _ _)
                exact ih48 (i + 1) (v9 + 1) _ _ _ (by omega) (by omega) (by rw [cn_t (P := (drP (A 0) T C s9)) (by simpa using c_29), hv]) hB (lv_sub hl [0, 1, 3, 7, 8, 9] rfl)
        exact k48 (q - 0 + 1) 0 0 _ _ _ (Nat.lt_succ_self _) (by omega) rfl hB hl
      · refine lv_iconst (v := (-1)) hE.x hE.b dX8_drawn_37 rfl ?_
        exact z_iret (v := (-1)) (ws := xW g x9 d rr im tx (nI ln) ab be (A 3 0) (A 3 1) (A 3 2) tb ib ++ (lW g d da (nI T) (nI C) (nI U) (nI V) rd ro lw pl pc gv aw nt ++ (Y ++ X))) hE hB hr (⟨(by unfold drawnR; rw [if_pos (show drawnOK sd q9 = true by unfold drawnOK pIn; rw [c_3, c_8]; rfl), if_pos (by omega)]), lS_i (A1 := A) T C U V rd ro lw pl pc gv aw nt Y (chk_t (show drawnOK sd q9 = true by unfold drawnOK pIn; rw [c_3, c_8]; rfl)) rfl hn hrel (fun _ h => h)⟩) dX8_drawn_38
    · refine lv_aload_n hE.x hE.b dX8_drawn_20 rfl (lv_at hl 0 rfl) ?_
      refine lv_bipush (v := (-2)) hE.x hE.b dX8_drawn_21 rfl ?_
      refine z_qi hB (z_cV hE hB (c_X8_bad l g x9 d rr im tx (nI ln) ab be (A 3 0) (A 3 1) (A 3 2) tb ib (-2) (lW g d da (nI T) (nI C) (nI U) (nI V) rd ro lw pl pc gv aw nt ++ (Y ++ X))) q1_126 kX8_bad ⟨rfl, rfl⟩ ⟨Nat.le_of_ble_eq_true rfl, Nat.le_of_ble_eq_true rfl⟩ 0 rfl rfl rfl hl.1 rfl (Nat.le_of_ble_eq_true rfl) dX8_drawn_23 ⟨Nat.le_of_ble_eq_true rfl, Nat.le_of_ble_eq_true rfl⟩) (fun r_30 w_31 H locs hw hB => ?_)
      obtain ⟨hr9, hw9⟩ := hw
      have hr9 := hr9.symm
      subst hr9
      have hw9 := hw9.symm
      subst hw9
      exact z_iret (v := (-2)) (ws := xW g x9 d rr im tx (nI ln) ab be ((A 3 0) + nI 1) (A 3 1) (A 3 2) tb ib ++ (lW g d da (nI T) (nI C) (nI U) (nI V) rd ro lw pl pc gv aw nt ++ (Y ++ X))) hE hB hr (⟨(by unfold drawnR; rw [if_neg (by rw [(show drawnOK sd q9 = false by unfold drawnOK pIn; simp [c_3, c_8])]; decide)]), lS_i (A1 := bump 0 A) T C U V rd ro lw pl pc gv aw nt Y (chk_f (show drawnOK sd q9 = false by unfold drawnOK pIn; simp [c_3, c_8])) rfl hn hrel (fun _ h => h)⟩) dX8_drawn_26

set_option maxHeartbeats 4000000 in
set_option maxRecDepth 100000 in
theorem c_X8_digest (l : Launch) (g : zG) (x9 : Nat) (d : Nat) (rr : Nat) (im : Nat) (tx : Nat) (ab : Int32) (be : Int32) (tb : Nat → Int32) (ib : Nat → Option Nat) (da : Nat → Nat) (T : Nat) (C : Nat) (U : Nat) (V : Nat) (rd : Nat → Int32) (ro : Nat → Int32) (lw : Nat → Option Nat) (pl : Nat → Option Nat) (pc : Nat → Int32) (gv : Nat → Int32) (aw : Nat → Int32) (nt : Nat → Int32) (A : Nat → Nat → Int32) (ln : Nat) (L : Nat → Int64) (Y : va_W) (X : va_W) (hn : nOK (A 0) T C V U) (hrel : relL (A 0) T C U V rd ro lw pl pc gv Y) (h4 : L 4 = ab.toInt64) (h5 : L 5 = be.toInt64) (hl150 : ln ≤ 150) : Met l yX8_digest (Cond.code yX8_digest cX8_digest 3 (some .long) :: TBL) { frames := 3, cells := 0, slots := 0, locals := 73 } (zPc [.ref x9] g (xW g x9 d rr im tx (nI ln) ab be (A 3 0) (A 3 1) (A 3 2) tb ib ++ (lW g d da (nI T) (nI C) (nI U) (nI V) rd ro lw pl pc gv aw nt ++ (Y ++ X)))) (zQl g (fun r ws => r = (digestR (A 0) L T C V U ln) ∧ lS g x9 d da rr im tx A ln ab be tb ib Y X ws)) 0 0 (zA (gz g)) := by
  refine z_start (by decide +kernel) rfl (Nat.le_of_ble_eq_true rfl) ?_
  intro p e s m args below meth c ls hE hr hnm hB hl
  have hl : lv_has ls 3 [(0, .ref x9)] := hl
  revert hB
  generalize s.heap = H
  generalize ([] : List Loc) = locs
  intro hB
  have hT6 := hn.T6
  have hC8 := hn.C8
  have hV8 := hn.V8
  have hU8 := hn.U8
  have hr9 := rcA_le (n := A 0) (T := T) T
  have hr8 : T * T ≤ 6 * 6 := Nat.mul_le_mul hT6 hT6
  refine lv_ldc2 (v := lN 947) hE.x hE.b hE.o (hE.t _ q3_222) dX8_digest_0 ?_
  refine lv_lstore_n (lv' := [(1, .long (lN 947)), (0, .ref x9)]) hE.x hE.b dX8_digest_3 rfl hl (by decide) rfl (fun ls hl => ?_)
  refine lv_lload_n hE.x hE.b dX8_digest_4 rfl (lv_at hl 0 rfl) ?_
  refine lv_aload_n hE.x hE.b dX8_digest_5 rfl (lv_at hl 1 rfl) ?_
  refine z_get (v := .ref d) hE hB inX8 0 rfl rfl 0 (by decide) q1_79 (fun _ h9 => h9) rfl dX8_digest_6 ?_
  refine z_get (v := .int (nI T)) hE hB inX4 3 rfl rfl 0 (by decide) q1_34 (fun _ h9 => h9) rfl dX8_digest_9 ?_
  refine lv_i2l (v := lN T) hE.x hE.b dX8_digest_12 (nI_l (by omega)) ?_
  refine z_ql hB (z_cS hE hB (c_X8_mixed l g (lN 947) (lN T) (xW g x9 d rr im tx (nI ln) ab be (A 3 0) (A 3 1) (A 3 2) tb ib ++ (lW g d da (nI T) (nI C) (nI U) (nI V) rd ro lw pl pc gv aw nt ++ (Y ++ X)))) q3_223 kX8_mixed ⟨rfl, rfl⟩ ⟨Nat.le_of_ble_eq_true rfl, Nat.le_of_ble_eq_true rfl⟩ rfl hl.1 rfl (Nat.le_of_ble_eq_true rfl) dX8_digest_13 ⟨Nat.le_of_ble_eq_true rfl, Nat.le_of_ble_eq_true rfl⟩) (fun r_1 w_2 H locs hw hB => ?_)
  obtain ⟨hr9, hw9⟩ := hw
  have hr9 := hr9.symm
  subst hr9
  have hw9 := hw9.symm
  subst hw9
  refine lv_lstore_n (lv' := [(1, .long (lN 31 * (lN 947) + (lN T))), (0, .ref x9)]) hE.x hE.b dX8_digest_16 rfl hl (by decide) rfl (fun ls hl => ?_)
  refine lv_lload_n hE.x hE.b dX8_digest_17 rfl (lv_at hl 0 rfl) ?_
  refine lv_aload_n hE.x hE.b dX8_digest_18 rfl (lv_at hl 1 rfl) ?_
  refine z_get (v := .ref d) hE hB inX8 0 rfl rfl 0 (by decide) q1_79 (fun _ h9 => h9) rfl dX8_digest_19 ?_
  refine z_get (v := .int (nI C)) hE hB inX4 3 rfl rfl 1 (by decide) q1_37 (fun _ h9 => h9) rfl dX8_digest_22 ?_
  refine lv_i2l (v := lN C) hE.x hE.b dX8_digest_25 (nI_l (by omega)) ?_
  refine z_ql hB (z_cS hE hB (c_X8_mixed l g (lN 31 * (lN 947) + (lN T)) (lN C) (xW g x9 d rr im tx (nI ln) ab be (A 3 0) (A 3 1) (A 3 2) tb ib ++ (lW g d da (nI T) (nI C) (nI U) (nI V) rd ro lw pl pc gv aw nt ++ (Y ++ X)))) q3_223 kX8_mixed ⟨rfl, rfl⟩ ⟨Nat.le_of_ble_eq_true rfl, Nat.le_of_ble_eq_true rfl⟩ rfl hl.1 rfl (Nat.le_of_ble_eq_true rfl) dX8_digest_26 ⟨Nat.le_of_ble_eq_true rfl, Nat.le_of_ble_eq_true rfl⟩) (fun r_3 w_4 H locs hw hB => ?_)
  obtain ⟨hr9, hw9⟩ := hw
  have hr9 := hr9.symm
  subst hr9
  have hw9 := hw9.symm
  subst hw9
  refine lv_lstore_n (lv' := [(1, .long (lN 31 * (lN 31 * (lN 947) + (lN T)) + (lN C))), (0, .ref x9)]) hE.x hE.b dX8_digest_29 rfl hl (by decide) rfl (fun ls hl => ?_)
  refine lv_lload_n hE.x hE.b dX8_digest_30 rfl (lv_at hl 0 rfl) ?_
  refine lv_aload_n hE.x hE.b dX8_digest_31 rfl (lv_at hl 1 rfl) ?_
  refine z_get (v := .ref d) hE hB inX8 0 rfl rfl 0 (by decide) q1_79 (fun _ h9 => h9) rfl dX8_digest_32 ?_
  have hB := zB_perm hB (List.perm_append_comm_assoc _ _ _)
  refine z_qi hB (z_cV hE hB (c_X4_roadsBuilt l g d da T C U V rd ro lw pl pc gv aw nt (A 0) Y (xW g x9 d rr im tx (nI ln) ab be (A 3 0) (A 3 1) (A 3 2) tb ib ++ (Y ++ X)) hn hrel (fun _ h => List.mem_append_right _ (List.mem_append_left _ h))) q3_214 kX4_roadsBuilt ⟨rfl, rfl⟩ ⟨Nat.le_of_ble_eq_true rfl, Nat.le_of_ble_eq_true rfl⟩ 0 rfl rfl rfl hl.1 rfl (Nat.le_of_ble_eq_true rfl) dX8_digest_35 ⟨Nat.le_of_ble_eq_true rfl, Nat.le_of_ble_eq_true rfl⟩) (fun r_5 w_6 H locs hw hB => ?_)
  obtain ⟨hr9, hw9⟩ := hw
  have hr9 := hr9.symm
  subst hr9
  have hw9 := hw9.symm
  subst hw9
  refine lv_i2l (v := lN (rcA (A 0) T T)) hE.x hE.b dX8_digest_38 (nI_l (by omega)) ?_
  refine z_ql hB (z_cS hE hB (c_X8_mixed l g (lN 31 * (lN 31 * (lN 947) + (lN T)) + (lN C)) (lN (rcA (A 0) T T)) (lW g d da (nI T) (nI C) (nI U) (nI V) rd ro lw pl pc gv aw nt ++ (xW g x9 d rr im tx (nI ln) ab be (A 3 0) (A 3 1) (A 3 2) tb ib ++ (Y ++ X)))) q3_223 kX8_mixed ⟨rfl, rfl⟩ ⟨Nat.le_of_ble_eq_true rfl, Nat.le_of_ble_eq_true rfl⟩ rfl hl.1 rfl (Nat.le_of_ble_eq_true rfl) dX8_digest_39 ⟨Nat.le_of_ble_eq_true rfl, Nat.le_of_ble_eq_true rfl⟩) (fun r_7 w_8 H locs hw hB => ?_)
  obtain ⟨hr9, hw9⟩ := hw
  have hr9 := hr9.symm
  subst hr9
  have hw9 := hw9.symm
  subst hw9
  refine lv_lstore_n (lv' := [(1, .long (lN 31 * (lN 31 * (lN 31 * (lN 947) + (lN T)) + (lN C)) + (lN (rcA (A 0) T T)))), (0, .ref x9)]) hE.x hE.b dX8_digest_42 rfl hl (by decide) rfl (fun ls hl => ?_)
  refine lv_lload_n hE.x hE.b dX8_digest_43 rfl (lv_at hl 0 rfl) ?_
  refine lv_aload_n hE.x hE.b dX8_digest_44 rfl (lv_at hl 1 rfl) ?_
  refine z_get (v := .ref d) hE hB inX8 9 rfl rfl 0 (by decide) q1_79 (fun _ h9 => h9) rfl dX8_digest_45 ?_
  refine z_get (v := .int (nI V)) hE hB inX4 0 rfl rfl 3 (by decide) q1_42 (fun _ h9 => h9) rfl dX8_digest_48 ?_
  refine lv_i2l (v := lN V) hE.x hE.b dX8_digest_51 (nI_l (by omega)) ?_
  refine z_ql hB (z_cS hE hB (c_X8_mixed l g (lN 31 * (lN 31 * (lN 31 * (lN 947) + (lN T)) + (lN C)) + (lN (rcA (A 0) T T))) (lN V) (lW g d da (nI T) (nI C) (nI U) (nI V) rd ro lw pl pc gv aw nt ++ (xW g x9 d rr im tx (nI ln) ab be (A 3 0) (A 3 1) (A 3 2) tb ib ++ (Y ++ X)))) q3_223 kX8_mixed ⟨rfl, rfl⟩ ⟨Nat.le_of_ble_eq_true rfl, Nat.le_of_ble_eq_true rfl⟩ rfl hl.1 rfl (Nat.le_of_ble_eq_true rfl) dX8_digest_52 ⟨Nat.le_of_ble_eq_true rfl, Nat.le_of_ble_eq_true rfl⟩) (fun r_9 w_10 H locs hw hB => ?_)
  obtain ⟨hr9, hw9⟩ := hw
  have hr9 := hr9.symm
  subst hr9
  have hw9 := hw9.symm
  subst hw9
  refine lv_lstore_n (lv' := [(1, .long (lN 31 * (lN 31 * (lN 31 * (lN 31 * (lN 947) + (lN T)) + (lN C)) + (lN (rcA (A 0) T T))) + (lN V))), (0, .ref x9)]) hE.x hE.b dX8_digest_55 rfl hl (by decide) rfl (fun ls hl => ?_)
  refine lv_lload_n hE.x hE.b dX8_digest_56 rfl (lv_at hl 0 rfl) ?_
  refine lv_aload_n hE.x hE.b dX8_digest_57 rfl (lv_at hl 1 rfl) ?_
  refine z_get (v := .ref d) hE hB inX8 9 rfl rfl 0 (by decide) q1_79 (fun _ h9 => h9) rfl dX8_digest_58 ?_
  refine z_get (v := .int (nI U)) hE hB inX4 0 rfl rfl 2 (by decide) q1_40 (fun _ h9 => h9) rfl dX8_digest_61 ?_
  refine lv_i2l (v := lN U) hE.x hE.b dX8_digest_64 (nI_l (by omega)) ?_
  refine z_ql hB (z_cS hE hB (c_X8_mixed l g (lN 31 * (lN 31 * (lN 31 * (lN 31 * (lN 947) + (lN T)) + (lN C)) + (lN (rcA (A 0) T T))) + (lN V)) (lN U) (lW g d da (nI T) (nI C) (nI U) (nI V) rd ro lw pl pc gv aw nt ++ (xW g x9 d rr im tx (nI ln) ab be (A 3 0) (A 3 1) (A 3 2) tb ib ++ (Y ++ X)))) q3_223 kX8_mixed ⟨rfl, rfl⟩ ⟨Nat.le_of_ble_eq_true rfl, Nat.le_of_ble_eq_true rfl⟩ rfl hl.1 rfl (Nat.le_of_ble_eq_true rfl) dX8_digest_65 ⟨Nat.le_of_ble_eq_true rfl, Nat.le_of_ble_eq_true rfl⟩) (fun r_11 w_12 H locs hw hB => ?_)
  obtain ⟨hr9, hw9⟩ := hw
  have hr9 := hr9.symm
  subst hr9
  have hw9 := hw9.symm
  subst hw9
  refine lv_lstore_n (lv' := [(1, .long (lN 31 * (lN 31 * (lN 31 * (lN 31 * (lN 31 * (lN 947) + (lN T)) + (lN C)) + (lN (rcA (A 0) T T))) + (lN V)) + (lN U))), (0, .ref x9)]) hE.x hE.b dX8_digest_68 rfl hl (by decide) rfl (fun ls hl => ?_)
  refine lv_lload_n hE.x hE.b dX8_digest_69 rfl (lv_at hl 0 rfl) ?_
  refine lv_aload_n hE.x hE.b dX8_digest_70 rfl (lv_at hl 1 rfl) ?_
  refine z_get (v := .int (nI ln)) hE hB inX8 9 rfl rfl 4 (by decide) q1_83 (fun _ h9 => h9) rfl dX8_digest_71 ?_
  refine lv_i2l (v := lN ln) hE.x hE.b dX8_digest_74 (nI_l (by omega)) ?_
  refine z_ql hB (z_cS hE hB (c_X8_mixed l g (lN 31 * (lN 31 * (lN 31 * (lN 31 * (lN 31 * (lN 947) + (lN T)) + (lN C)) + (lN (rcA (A 0) T T))) + (lN V)) + (lN U)) (lN ln) (lW g d da (nI T) (nI C) (nI U) (nI V) rd ro lw pl pc gv aw nt ++ (xW g x9 d rr im tx (nI ln) ab be (A 3 0) (A 3 1) (A 3 2) tb ib ++ (Y ++ X)))) q3_223 kX8_mixed ⟨rfl, rfl⟩ ⟨Nat.le_of_ble_eq_true rfl, Nat.le_of_ble_eq_true rfl⟩ rfl hl.1 rfl (Nat.le_of_ble_eq_true rfl) dX8_digest_75 ⟨Nat.le_of_ble_eq_true rfl, Nat.le_of_ble_eq_true rfl⟩) (fun r_13 w_14 H locs hw hB => ?_)
  obtain ⟨hr9, hw9⟩ := hw
  have hr9 := hr9.symm
  subst hr9
  have hw9 := hw9.symm
  subst hw9
  refine lv_lstore_n (lv' := [(1, .long (lN 31 * (lN 31 * (lN 31 * (lN 31 * (lN 31 * (lN 31 * (lN 947) + (lN T)) + (lN C)) + (lN (rcA (A 0) T T))) + (lN V)) + (lN U)) + (lN ln))), (0, .ref x9)]) hE.x hE.b dX8_digest_78 rfl hl (by decide) rfl (fun ls hl => ?_)
  refine lv_aload_n hE.x hE.b dX8_digest_79 rfl (lv_at hl 1 rfl) ?_
  refine z_get (v := .ref d) hE hB inX8 9 rfl rfl 0 (by decide) q1_79 (fun _ h9 => h9) rfl dX8_digest_80 ?_
  refine lv_lload_n hE.x hE.b dX8_digest_83 rfl (lv_at hl 0 rfl) ?_
  refine z_ql hB (z_cV hE hB (c_X4_mixedIn l g d da T C U V rd ro lw pl pc gv aw nt (lN 31 * (lN 31 * (lN 31 * (lN 31 * (lN 31 * (lN 31 * (lN 947) + (lN T)) + (lN C)) + (lN (rcA (A 0) T T))) + (lN V)) + (lN U)) + (lN ln)) (A 0) Y (xW g x9 d rr im tx (nI ln) ab be (A 3 0) (A 3 1) (A 3 2) tb ib ++ (Y ++ X)) hn hrel (fun _ h => List.mem_append_right _ (List.mem_append_left _ h))) q3_227 kX4_mixedIn ⟨rfl, rfl⟩ ⟨Nat.le_of_ble_eq_true rfl, Nat.le_of_ble_eq_true rfl⟩ 0 rfl rfl rfl hl.1 rfl (Nat.le_of_ble_eq_true rfl) dX8_digest_84 ⟨Nat.le_of_ble_eq_true rfl, Nat.le_of_ble_eq_true rfl⟩) (fun r_15 w_16 H locs hw hB => ?_)
  obtain ⟨hr9, hw9⟩ := hw
  have hr9 := hr9.symm
  subst hr9
  have hw9 := hw9.symm
  subst hw9
  refine lv_lstore_n (lv' := [(1, .long (smL (A 0) (smL (A 0) (dgA (A 0) T (smL (A 0) (lN 31 * (lN 31 * (lN 31 * (lN 31 * (lN 31 * (lN 31 * (lN 947) + (lN T)) + (lN C)) + (lN (rcA (A 0) T T))) + (lN V)) + (lN U)) + (lN ln)) 4 T) T) 46 (5 * C)) 86 (5 * V))), (0, .ref x9)]) hE.x hE.b dX8_digest_87 rfl hl (by decide) rfl (fun ls hl => ?_)
  refine lv_lload_n hE.x hE.b dX8_digest_88 rfl (lv_at hl 0 rfl) ?_
  refine lv_aload_n hE.x hE.b dX8_digest_89 rfl (lv_at hl 1 rfl) ?_
  refine z_get (v := .int ab) hE hB inX8 9 rfl rfl 5 (by decide) q1_84 (fun _ h9 => h9) rfl dX8_digest_90 ?_
  refine lv_i2l hE.x hE.b dX8_digest_93 rfl ?_
  refine z_ql hB (z_cS hE hB (c_X8_mixed l g (smL (A 0) (smL (A 0) (dgA (A 0) T (smL (A 0) (lN 31 * (lN 31 * (lN 31 * (lN 31 * (lN 31 * (lN 31 * (lN 947) + (lN T)) + (lN C)) + (lN (rcA (A 0) T T))) + (lN V)) + (lN U)) + (lN ln)) 4 T) T) 46 (5 * C)) 86 (5 * V)) (Int32.toInt64 ab) (lW g d da (nI T) (nI C) (nI U) (nI V) rd ro lw pl pc gv aw nt ++ (xW g x9 d rr im tx (nI ln) ab be (A 3 0) (A 3 1) (A 3 2) tb ib ++ (Y ++ X)))) q3_223 kX8_mixed ⟨rfl, rfl⟩ ⟨Nat.le_of_ble_eq_true rfl, Nat.le_of_ble_eq_true rfl⟩ rfl hl.1 rfl (Nat.le_of_ble_eq_true rfl) dX8_digest_94 ⟨Nat.le_of_ble_eq_true rfl, Nat.le_of_ble_eq_true rfl⟩) (fun r_17 w_18 H locs hw hB => ?_)
  obtain ⟨hr9, hw9⟩ := hw
  have hr9 := hr9.symm
  subst hr9
  have hw9 := hw9.symm
  subst hw9
  refine lv_lstore_n (lv' := [(1, .long (lN 31 * (smL (A 0) (smL (A 0) (dgA (A 0) T (smL (A 0) (lN 31 * (lN 31 * (lN 31 * (lN 31 * (lN 31 * (lN 31 * (lN 947) + (lN T)) + (lN C)) + (lN (rcA (A 0) T T))) + (lN V)) + (lN U)) + (lN ln)) 4 T) T) 46 (5 * C)) 86 (5 * V)) + (Int32.toInt64 ab))), (0, .ref x9)]) hE.x hE.b dX8_digest_97 rfl hl (by decide) rfl (fun ls hl => ?_)
  refine lv_lload_n hE.x hE.b dX8_digest_98 rfl (lv_at hl 0 rfl) ?_
  refine lv_aload_n hE.x hE.b dX8_digest_99 rfl (lv_at hl 1 rfl) ?_
  refine z_get (v := .int be) hE hB inX8 9 rfl rfl 6 (by decide) q1_85 (fun _ h9 => h9) rfl dX8_digest_100 ?_
  refine lv_i2l hE.x hE.b dX8_digest_103 rfl ?_
  refine z_ql hB (z_cS hE hB (c_X8_mixed l g (lN 31 * (smL (A 0) (smL (A 0) (dgA (A 0) T (smL (A 0) (lN 31 * (lN 31 * (lN 31 * (lN 31 * (lN 31 * (lN 31 * (lN 947) + (lN T)) + (lN C)) + (lN (rcA (A 0) T T))) + (lN V)) + (lN U)) + (lN ln)) 4 T) T) 46 (5 * C)) 86 (5 * V)) + (Int32.toInt64 ab)) (Int32.toInt64 be) (lW g d da (nI T) (nI C) (nI U) (nI V) rd ro lw pl pc gv aw nt ++ (xW g x9 d rr im tx (nI ln) ab be (A 3 0) (A 3 1) (A 3 2) tb ib ++ (Y ++ X)))) q3_223 kX8_mixed ⟨rfl, rfl⟩ ⟨Nat.le_of_ble_eq_true rfl, Nat.le_of_ble_eq_true rfl⟩ rfl hl.1 rfl (Nat.le_of_ble_eq_true rfl) dX8_digest_104 ⟨Nat.le_of_ble_eq_true rfl, Nat.le_of_ble_eq_true rfl⟩) (fun r_19 w_20 H locs hw hB => ?_)
  obtain ⟨hr9, hw9⟩ := hw
  have hr9 := hr9.symm
  subst hr9
  have hw9 := hw9.symm
  subst hw9
  have hB := zB_perm hB (List.perm_append_comm_assoc _ _ _)
  exact z_lret (v := (lN 31 * (lN 31 * (smL (A 0) (smL (A 0) (dgA (A 0) T (smL (A 0) (lN 31 * (lN 31 * (lN 31 * (lN 31 * (lN 31 * (lN 31 * (lN 947) + (lN T)) + (lN C)) + (lN (rcA (A 0) T T))) + (lN V)) + (lN U)) + (lN ln)) 4 T) T) 46 (5 * C)) 86 (5 * V)) + (Int32.toInt64 ab)) + (Int32.toInt64 be))) (ws := xW g x9 d rr im tx (nI ln) ab be (A 3 0) (A 3 1) (A 3 2) tb ib ++ (lW g d da (nI T) (nI C) (nI U) (nI V) rd ro lw pl pc gv aw nt ++ (Y ++ X))) hE hB hr (⟨(by unfold digestR dg2 dg1; rw [h4, h5]; rfl), lS_i (A1 := A) T C U V rd ro lw pl pc gv aw nt Y rfl rfl hn hrel (fun _ h => h)⟩) dX8_digest_107

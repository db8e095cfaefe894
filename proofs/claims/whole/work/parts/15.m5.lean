theorem dX9_contradict_0 : decode cX9_contradict 0 = .ok (.iload_n 1, 1) := by decide +kernel
theorem dX9_contradict_1 : decode cX9_contradict 1 = .ok (.invokestatic 83, 3) := by decide +kernel
theorem dX9_contradict_4 : decode cX9_contradict 4 = .ok (.ifCond .eq 15, 3) := by decide +kernel
theorem dX9_contradict_7 : decode cX9_contradict 7 = .ok (.iload_n 2, 1) := by decide +kernel
theorem dX9_contradict_8 : decode cX9_contradict 8 = .ok (.invokestatic 147, 3) := by decide +kernel
theorem dX9_contradict_11 : decode cX9_contradict 11 = .ok (.ifCond .eq 8, 3) := by decide +kernel
theorem dX9_contradict_14 : decode cX9_contradict 14 = .ok (.iload_n 3, 1) := by decide +kernel
theorem dX9_contradict_15 : decode cX9_contradict 15 = .ok (.iconst (-1), 1) := by decide +kernel
theorem dX9_contradict_16 : decode cX9_contradict 16 = .ok (.if_icmp .ge 10, 3) := by decide +kernel
theorem dX9_contradict_19 : decode cX9_contradict 19 = .ok (.aload_n 0, 1) := by decide +kernel
theorem dX9_contradict_20 : decode cX9_contradict 20 = .ok (.bipush (-10), 2) := by decide +kernel
theorem dX9_contradict_22 : decode cX9_contradict 22 = .ok (.invokevirtual 62, 3) := by decide +kernel
theorem dX9_contradict_25 : decode cX9_contradict 25 = .ok (.ireturn, 1) := by decide +kernel
theorem dX9_contradict_26 : decode cX9_contradict 26 = .ok (.iconst 0, 1) := by decide +kernel
theorem dX9_contradict_27 : decode cX9_contradict 27 = .ok (.istore 4, 2) := by decide +kernel
theorem dX9_contradict_29 : decode cX9_contradict 29 = .ok (.bipush (-5), 2) := by decide +kernel
theorem dX9_contradict_31 : decode cX9_contradict 31 = .ok (.istore 5, 2) := by decide +kernel
theorem dX9_contradict_33 : decode cX9_contradict 33 = .ok (.iconst 0, 1) := by decide +kernel
theorem dX9_contradict_34 : decode cX9_contradict 34 = .ok (.istore 6, 2) := by decide +kernel
theorem dX9_contradict_36 : decode cX9_contradict 36 = .ok (.iload 6, 2) := by decide +kernel
theorem dX9_contradict_38 : decode cX9_contradict 38 = .ok (.aload_n 0, 1) := by decide +kernel
theorem dX9_contradict_39 : decode cX9_contradict 39 = .ok (.invokevirtual 39, 3) := by decide +kernel
theorem dX9_contradict_42 : decode cX9_contradict 42 = .ok (.if_icmp .ge 79, 3) := by decide +kernel
theorem dX9_contradict_45 : decode cX9_contradict 45 = .ok (.iload 6, 2) := by decide +kernel
theorem dX9_contradict_47 : decode cX9_contradict 47 = .ok (.iconst 1, 1) := by decide +kernel
theorem dX9_contradict_48 : decode cX9_contradict 48 = .ok (.iadd, 1) := by decide +kernel
theorem dX9_contradict_49 : decode cX9_contradict 49 = .ok (.istore 7, 2) := by decide +kernel
theorem dX9_contradict_51 : decode cX9_contradict 51 = .ok (.iload 7, 2) := by decide +kernel
theorem dX9_contradict_53 : decode cX9_contradict 53 = .ok (.aload_n 0, 1) := by decide +kernel
theorem dX9_contradict_54 : decode cX9_contradict 54 = .ok (.invokevirtual 39, 3) := by decide +kernel
theorem dX9_contradict_57 : decode cX9_contradict 57 = .ok (.if_icmp .ge 58, 3) := by decide +kernel
theorem dX9_contradict_60 : decode cX9_contradict 60 = .ok (.aload_n 0, 1) := by decide +kernel
theorem dX9_contradict_61 : decode cX9_contradict 61 = .ok (.iload 6, 2) := by decide +kernel
theorem dX9_contradict_63 : decode cX9_contradict 63 = .ok (.iload_n 1, 1) := by decide +kernel
theorem dX9_contradict_64 : decode cX9_contradict 64 = .ok (.iload_n 2, 1) := by decide +kernel
theorem dX9_contradict_65 : decode cX9_contradict 65 = .ok (.iconst 0, 1) := by decide +kernel
theorem dX9_contradict_66 : decode cX9_contradict 66 = .ok (.iconst 0, 1) := by decide +kernel
theorem dX9_contradict_67 : decode cX9_contradict 67 = .ok (.iconst 0, 1) := by decide +kernel
theorem dX9_contradict_68 : decode cX9_contradict 68 = .ok (.invokevirtual 161, 3) := by decide +kernel
theorem dX9_contradict_71 : decode cX9_contradict 71 = .ok (.aload_n 0, 1) := by decide +kernel
theorem dX9_contradict_72 : decode cX9_contradict 72 = .ok (.iload 7, 2) := by decide +kernel
theorem dX9_contradict_74 : decode cX9_contradict 74 = .ok (.iload_n 1, 1) := by decide +kernel
theorem dX9_contradict_75 : decode cX9_contradict 75 = .ok (.iload_n 2, 1) := by decide +kernel
theorem dX9_contradict_76 : decode cX9_contradict 76 = .ok (.iconst 0, 1) := by decide +kernel
theorem dX9_contradict_77 : decode cX9_contradict 77 = .ok (.iconst 0, 1) := by decide +kernel
theorem dX9_contradict_78 : decode cX9_contradict 78 = .ok (.iconst 0, 1) := by decide +kernel
theorem dX9_contradict_79 : decode cX9_contradict 79 = .ok (.invokevirtual 161, 3) := by decide +kernel
theorem dX9_contradict_82 : decode cX9_contradict 82 = .ok (.if_icmp .eq 27, 3) := by decide +kernel
theorem dX9_contradict_85 : decode cX9_contradict 85 = .ok (.iload 4, 2) := by decide +kernel
theorem dX9_contradict_87 : decode cX9_contradict 87 = .ok (.iload_n 3, 1) := by decide +kernel
theorem dX9_contradict_88 : decode cX9_contradict 88 = .ok (.if_icmp .ne 14, 3) := by decide +kernel
theorem dX9_contradict_91 : decode cX9_contradict 91 = .ok (.bipush 10, 2) := by decide +kernel
theorem dX9_contradict_93 : decode cX9_contradict 93 = .ok (.iload 6, 2) := by decide +kernel
theorem dX9_contradict_95 : decode cX9_contradict 95 = .ok (.imul, 1) := by decide +kernel
theorem dX9_contradict_96 : decode cX9_contradict 96 = .ok (.iload 7, 2) := by decide +kernel
theorem dX9_contradict_98 : decode cX9_contradict 98 = .ok (.iadd, 1) := by decide +kernel
theorem dX9_contradict_99 : decode cX9_contradict 99 = .ok (.goto 5, 3) := by decide +kernel
theorem dX9_contradict_102 : decode cX9_contradict 102 = .ok (.iload 5, 2) := by decide +kernel
theorem dX9_contradict_104 : decode cX9_contradict 104 = .ok (.istore 5, 2) := by decide +kernel
theorem dX9_contradict_106 : decode cX9_contradict 106 = .ok (.iinc 4 1, 3) := by decide +kernel
theorem dX9_contradict_109 : decode cX9_contradict 109 = .ok (.iinc 7 1, 3) := by decide +kernel
theorem dX9_contradict_112 : decode cX9_contradict 112 = .ok (.goto (-61), 3) := by decide +kernel
theorem dX9_contradict_115 : decode cX9_contradict 115 = .ok (.iinc 6 1, 3) := by decide +kernel
theorem dX9_contradict_118 : decode cX9_contradict 118 = .ok (.goto (-82), 3) := by decide +kernel
theorem dX9_contradict_121 : decode cX9_contradict 121 = .ok (.iload_n 3, 1) := by decide +kernel
theorem dX9_contradict_122 : decode cX9_contradict 122 = .ok (.iconst (-1), 1) := by decide +kernel
theorem dX9_contradict_123 : decode cX9_contradict 123 = .ok (.if_icmp .ne 8, 3) := by decide +kernel
theorem dX9_contradict_126 : decode cX9_contradict 126 = .ok (.iload 4, 2) := by decide +kernel
theorem dX9_contradict_128 : decode cX9_contradict 128 = .ok (.goto 5, 3) := by decide +kernel
theorem dX9_contradict_131 : decode cX9_contradict 131 = .ok (.iload 5, 2) := by decide +kernel
theorem dX9_contradict_133 : decode cX9_contradict 133 = .ok (.ireturn, 1) := by decide +kernel
theorem dX9_allAgree_0 : decode cX9_allAgree 0 = .ok (.iconst 1, 1) := by decide +kernel
theorem dX9_allAgree_1 : decode cX9_allAgree 1 = .ok (.istore 4, 2) := by decide +kernel
theorem dX9_allAgree_3 : decode cX9_allAgree 3 = .ok (.iconst 0, 1) := by decide +kernel
theorem dX9_allAgree_4 : decode cX9_allAgree 4 = .ok (.istore 5, 2) := by decide +kernel
theorem dX9_allAgree_6 : decode cX9_allAgree 6 = .ok (.iload 5, 2) := by decide +kernel
theorem dX9_allAgree_8 : decode cX9_allAgree 8 = .ok (.bipush 6, 2) := by decide +kernel
theorem dX9_allAgree_10 : decode cX9_allAgree 10 = .ok (.if_icmp .ge 80, 3) := by decide +kernel
theorem dX9_allAgree_13 : decode cX9_allAgree 13 = .ok (.iload 4, 2) := by decide +kernel
theorem dX9_allAgree_15 : decode cX9_allAgree 15 = .ok (.ifCond .eq 75, 3) := by decide +kernel
theorem dX9_allAgree_18 : decode cX9_allAgree 18 = .ok (.iconst 1, 1) := by decide +kernel
theorem dX9_allAgree_19 : decode cX9_allAgree 19 = .ok (.istore 6, 2) := by decide +kernel
theorem dX9_allAgree_21 : decode cX9_allAgree 21 = .ok (.iload 6, 2) := by decide +kernel
theorem dX9_allAgree_23 : decode cX9_allAgree 23 = .ok (.aload_n 0, 1) := by decide +kernel
theorem dX9_allAgree_24 : decode cX9_allAgree 24 = .ok (.invokevirtual 39, 3) := by decide +kernel
theorem dX9_allAgree_27 : decode cX9_allAgree 27 = .ok (.if_icmp .ge 57, 3) := by decide +kernel
theorem dX9_allAgree_30 : decode cX9_allAgree 30 = .ok (.iload 4, 2) := by decide +kernel
theorem dX9_allAgree_32 : decode cX9_allAgree 32 = .ok (.ifCond .eq 52, 3) := by decide +kernel
theorem dX9_allAgree_35 : decode cX9_allAgree 35 = .ok (.iload_n 1, 1) := by decide +kernel
theorem dX9_allAgree_36 : decode cX9_allAgree 36 = .ok (.iload 5, 2) := by decide +kernel
theorem dX9_allAgree_38 : decode cX9_allAgree 38 = .ok (.ishr, 1) := by decide +kernel
theorem dX9_allAgree_39 : decode cX9_allAgree 39 = .ok (.iconst 1, 1) := by decide +kernel
theorem dX9_allAgree_40 : decode cX9_allAgree 40 = .ok (.iand, 1) := by decide +kernel
theorem dX9_allAgree_41 : decode cX9_allAgree 41 = .ok (.iconst 1, 1) := by decide +kernel
theorem dX9_allAgree_42 : decode cX9_allAgree 42 = .ok (.if_icmp .ne 42, 3) := by decide +kernel
theorem dX9_allAgree_45 : decode cX9_allAgree 45 = .ok (.aload_n 0, 1) := by decide +kernel
theorem dX9_allAgree_46 : decode cX9_allAgree 46 = .ok (.iload 6, 2) := by decide +kernel
theorem dX9_allAgree_48 : decode cX9_allAgree 48 = .ok (.iload 5, 2) := by decide +kernel
theorem dX9_allAgree_50 : decode cX9_allAgree 50 = .ok (.iload_n 2, 1) := by decide +kernel
theorem dX9_allAgree_51 : decode cX9_allAgree 51 = .ok (.iconst 0, 1) := by decide +kernel
theorem dX9_allAgree_52 : decode cX9_allAgree 52 = .ok (.iconst 0, 1) := by decide +kernel
theorem dX9_allAgree_53 : decode cX9_allAgree 53 = .ok (.iload_n 3, 1) := by decide +kernel
theorem dX9_allAgree_54 : decode cX9_allAgree 54 = .ok (.invokevirtual 161, 3) := by decide +kernel
theorem dX9_allAgree_57 : decode cX9_allAgree 57 = .ok (.aload_n 0, 1) := by decide +kernel
theorem dX9_allAgree_58 : decode cX9_allAgree 58 = .ok (.iconst 0, 1) := by decide +kernel
theorem dX9_allAgree_59 : decode cX9_allAgree 59 = .ok (.iload 5, 2) := by decide +kernel
theorem dX9_allAgree_61 : decode cX9_allAgree 61 = .ok (.iload_n 2, 1) := by decide +kernel
theorem dX9_allAgree_62 : decode cX9_allAgree 62 = .ok (.iconst 0, 1) := by decide +kernel
theorem dX9_allAgree_63 : decode cX9_allAgree 63 = .ok (.iconst 0, 1) := by decide +kernel
theorem dX9_allAgree_64 : decode cX9_allAgree 64 = .ok (.iload_n 3, 1) := by decide +kernel
theorem dX9_allAgree_65 : decode cX9_allAgree 65 = .ok (.invokevirtual 161, 3) := by decide +kernel
theorem dX9_allAgree_68 : decode cX9_allAgree 68 = .ok (.if_icmp .ne 7, 3) := by decide +kernel
theorem dX9_allAgree_71 : decode cX9_allAgree 71 = .ok (.iconst 1, 1) := by decide +kernel
theorem dX9_allAgree_72 : decode cX9_allAgree 72 = .ok (.goto 4, 3) := by decide +kernel
theorem dX9_allAgree_75 : decode cX9_allAgree 75 = .ok (.iconst 0, 1) := by decide +kernel
theorem dX9_allAgree_76 : decode cX9_allAgree 76 = .ok (.istore 4, 2) := by decide +kernel
theorem dX9_allAgree_78 : decode cX9_allAgree 78 = .ok (.iinc 6 1, 3) := by decide +kernel
theorem dX9_allAgree_81 : decode cX9_allAgree 81 = .ok (.goto (-60), 3) := by decide +kernel
theorem dX9_allAgree_84 : decode cX9_allAgree 84 = .ok (.iinc 5 1, 3) := by decide +kernel
theorem dX9_allAgree_87 : decode cX9_allAgree 87 = .ok (.goto (-81), 3) := by decide +kernel
theorem dX9_allAgree_90 : decode cX9_allAgree 90 = .ok (.iload 4, 2) := by decide +kernel
theorem dX9_allAgree_92 : decode cX9_allAgree 92 = .ok (.ireturn, 1) := by decide +kernel
theorem dX9_settle_0 : decode cX9_settle 0 = .ok (.iload_n 1, 1) := by decide +kernel
theorem dX9_settle_1 : decode cX9_settle 1 = .ok (.invokestatic 164, 3) := by decide +kernel
theorem dX9_settle_4 : decode cX9_settle 4 = .ok (.ifCond .eq 10, 3) := by decide +kernel
theorem dX9_settle_7 : decode cX9_settle 7 = .ok (.iload_n 2, 1) := by decide +kernel
theorem dX9_settle_8 : decode cX9_settle 8 = .ok (.invokestatic 147, 3) := by decide +kernel
theorem dX9_settle_11 : decode cX9_settle 11 = .ok (.ifCond .ne 10, 3) := by decide +kernel
theorem dX9_settle_14 : decode cX9_settle 14 = .ok (.aload_n 0, 1) := by decide +kernel
theorem dX9_settle_15 : decode cX9_settle 15 = .ok (.bipush (-2), 2) := by decide +kernel
theorem dX9_settle_17 : decode cX9_settle 17 = .ok (.invokevirtual 62, 3) := by decide +kernel
theorem dX9_settle_20 : decode cX9_settle 20 = .ok (.ireturn, 1) := by decide +kernel
theorem dX9_settle_21 : decode cX9_settle 21 = .ok (.iconst 1, 1) := by decide +kernel
theorem dX9_settle_22 : decode cX9_settle 22 = .ok (.aload_n 0, 1) := by decide +kernel
theorem dX9_settle_23 : decode cX9_settle 23 = .ok (.invokevirtual 47, 3) := by decide +kernel
theorem dX9_settle_26 : decode cX9_settle 26 = .ok (.ishl, 1) := by decide +kernel
theorem dX9_settle_27 : decode cX9_settle 27 = .ok (.iconst 1, 1) := by decide +kernel
theorem dX9_settle_28 : decode cX9_settle 28 = .ok (.isub, 1) := by decide +kernel
theorem dX9_settle_29 : decode cX9_settle 29 = .ok (.istore_n 3, 1) := by decide +kernel
theorem dX9_settle_30 : decode cX9_settle 30 = .ok (.iconst 0, 1) := by decide +kernel
theorem dX9_settle_31 : decode cX9_settle 31 = .ok (.istore 4, 2) := by decide +kernel
theorem dX9_settle_33 : decode cX9_settle 33 = .ok (.iload 4, 2) := by decide +kernel
theorem dX9_settle_35 : decode cX9_settle 35 = .ok (.iconst 1, 1) := by decide +kernel
theorem dX9_settle_36 : decode cX9_settle 36 = .ok (.aload_n 0, 1) := by decide +kernel
theorem dX9_settle_37 : decode cX9_settle 37 = .ok (.invokevirtual 47, 3) := by decide +kernel
theorem dX9_settle_40 : decode cX9_settle 40 = .ok (.ishl, 1) := by decide +kernel
theorem dX9_settle_41 : decode cX9_settle 41 = .ok (.if_icmp .ge 51, 3) := by decide +kernel
theorem dX9_settle_44 : decode cX9_settle 44 = .ok (.iload 4, 2) := by decide +kernel
theorem dX9_settle_46 : decode cX9_settle 46 = .ok (.invokestatic 167, 3) := by decide +kernel
theorem dX9_settle_49 : decode cX9_settle 49 = .ok (.iload_n 3, 1) := by decide +kernel
theorem dX9_settle_50 : decode cX9_settle 50 = .ok (.invokestatic 167, 3) := by decide +kernel
theorem dX9_settle_53 : decode cX9_settle 53 = .ok (.if_icmp .ge 7, 3) := by decide +kernel
theorem dX9_settle_56 : decode cX9_settle 56 = .ok (.iconst 1, 1) := by decide +kernel
theorem dX9_settle_57 : decode cX9_settle 57 = .ok (.goto 4, 3) := by decide +kernel
theorem dX9_settle_60 : decode cX9_settle 60 = .ok (.iconst 0, 1) := by decide +kernel
theorem dX9_settle_61 : decode cX9_settle 61 = .ok (.istore 5, 2) := by decide +kernel
theorem dX9_settle_63 : decode cX9_settle 63 = .ok (.iload 5, 2) := by decide +kernel
theorem dX9_settle_65 : decode cX9_settle 65 = .ok (.ifCond .eq 19, 3) := by decide +kernel
theorem dX9_settle_68 : decode cX9_settle 68 = .ok (.aload_n 0, 1) := by decide +kernel
theorem dX9_settle_69 : decode cX9_settle 69 = .ok (.iload_n 1, 1) := by decide +kernel
theorem dX9_settle_70 : decode cX9_settle 70 = .ok (.iload_n 2, 1) := by decide +kernel
theorem dX9_settle_71 : decode cX9_settle 71 = .ok (.iload 4, 2) := by decide +kernel
theorem dX9_settle_73 : decode cX9_settle 73 = .ok (.invokevirtual 170, 3) := by decide +kernel
theorem dX9_settle_76 : decode cX9_settle 76 = .ok (.ifCond .eq 8, 3) := by decide +kernel
theorem dX9_settle_79 : decode cX9_settle 79 = .ok (.iload 4, 2) := by decide +kernel
theorem dX9_settle_81 : decode cX9_settle 81 = .ok (.goto 4, 3) := by decide +kernel
theorem dX9_settle_84 : decode cX9_settle 84 = .ok (.iload_n 3, 1) := by decide +kernel
theorem dX9_settle_85 : decode cX9_settle 85 = .ok (.istore_n 3, 1) := by decide +kernel
theorem dX9_settle_86 : decode cX9_settle 86 = .ok (.iinc 4 1, 3) := by decide +kernel
theorem dX9_settle_89 : decode cX9_settle 89 = .ok (.goto (-56), 3) := by decide +kernel
theorem dX9_settle_92 : decode cX9_settle 92 = .ok (.iload_n 3, 1) := by decide +kernel
theorem dX9_settle_93 : decode cX9_settle 93 = .ok (.ireturn, 1) := by decide +kernel
theorem dX9_reads_0 : decode cX9_reads 0 = .ok (.aload_n 0, 1) := by decide +kernel
theorem dX9_reads_1 : decode cX9_reads 1 = .ok (.iload_n 1, 1) := by decide +kernel
theorem dX9_reads_2 : decode cX9_reads 2 = .ok (.invokevirtual 73, 3) := by decide +kernel
theorem dX9_reads_5 : decode cX9_reads 5 = .ok (.ifCond .eq 27, 3) := by decide +kernel
theorem dX9_reads_8 : decode cX9_reads 8 = .ok (.iload_n 2, 1) := by decide +kernel
theorem dX9_reads_9 : decode cX9_reads 9 = .ok (.invokestatic 83, 3) := by decide +kernel
theorem dX9_reads_12 : decode cX9_reads 12 = .ok (.ifCond .eq 20, 3) := by decide +kernel
theorem dX9_reads_15 : decode cX9_reads 15 = .ok (.iload_n 3, 1) := by decide +kernel
theorem dX9_reads_16 : decode cX9_reads 16 = .ok (.invokestatic 147, 3) := by decide +kernel
theorem dX9_reads_19 : decode cX9_reads 19 = .ok (.ifCond .eq 13, 3) := by decide +kernel
theorem dX9_reads_22 : decode cX9_reads 22 = .ok (.iload 4, 2) := by decide +kernel
theorem dX9_reads_24 : decode cX9_reads 24 = .ok (.iload 5, 2) := by decide +kernel
theorem dX9_reads_26 : decode cX9_reads 26 = .ok (.invokestatic 150, 3) := by decide +kernel
theorem dX9_reads_29 : decode cX9_reads 29 = .ok (.ifCond .ne 10, 3) := by decide +kernel
theorem dX9_reads_32 : decode cX9_reads 32 = .ok (.aload_n 0, 1) := by decide +kernel
theorem dX9_reads_33 : decode cX9_reads 33 = .ok (.bipush (-2), 2) := by decide +kernel
theorem dX9_reads_35 : decode cX9_reads 35 = .ok (.invokevirtual 62, 3) := by decide +kernel
theorem dX9_reads_38 : decode cX9_reads 38 = .ok (.ireturn, 1) := by decide +kernel
theorem dX9_reads_39 : decode cX9_reads 39 = .ok (.aload_n 0, 1) := by decide +kernel
theorem dX9_reads_40 : decode cX9_reads 40 = .ok (.iload_n 1, 1) := by decide +kernel
theorem dX9_reads_41 : decode cX9_reads 41 = .ok (.iload_n 2, 1) := by decide +kernel
theorem dX9_reads_42 : decode cX9_reads 42 = .ok (.iload_n 3, 1) := by decide +kernel
theorem dX9_reads_43 : decode cX9_reads 43 = .ok (.iload 4, 2) := by decide +kernel
theorem dX9_reads_45 : decode cX9_reads 45 = .ok (.iload 5, 2) := by decide +kernel
theorem dX9_reads_47 : decode cX9_reads 47 = .ok (.iconst 0, 1) := by decide +kernel
theorem dX9_reads_48 : decode cX9_reads 48 = .ok (.invokevirtual 136, 3) := by decide +kernel
theorem dX9_reads_51 : decode cX9_reads 51 = .ok (.iconst 0, 1) := by decide +kernel
theorem dX9_reads_52 : decode cX9_reads 52 = .ok (.istore 6, 2) := by decide +kernel
theorem dX9_reads_54 : decode cX9_reads 54 = .ok (.iconst 0, 1) := by decide +kernel
theorem dX9_reads_55 : decode cX9_reads 55 = .ok (.istore 7, 2) := by decide +kernel
theorem dX9_reads_57 : decode cX9_reads 57 = .ok (.iload 7, 2) := by decide +kernel
theorem dX9_reads_59 : decode cX9_reads 59 = .ok (.iconst 4, 1) := by decide +kernel
theorem dX9_reads_60 : decode cX9_reads 60 = .ok (.if_icmp .ge 49, 3) := by decide +kernel
theorem dX9_reads_63 : decode cX9_reads 63 = .ok (.aload_n 0, 1) := by decide +kernel
theorem dX9_reads_64 : decode cX9_reads 64 = .ok (.iload 7, 2) := by decide +kernel
theorem dX9_reads_66 : decode cX9_reads 66 = .ok (.invokevirtual 140, 3) := by decide +kernel
theorem dX9_reads_69 : decode cX9_reads 69 = .ok (.istore 8, 2) := by decide +kernel
theorem dX9_reads_71 : decode cX9_reads 71 = .ok (.iload 6, 2) := by decide +kernel
theorem dX9_reads_73 : decode cX9_reads 73 = .ok (.iload 8, 2) := by decide +kernel
theorem dX9_reads_75 : decode cX9_reads 75 = .ok (.iconst (-1), 1) := by decide +kernel
theorem dX9_reads_76 : decode cX9_reads 76 = .ok (.if_icmp .eq 16, 3) := by decide +kernel
theorem dX9_reads_79 : decode cX9_reads 79 = .ok (.aload_n 0, 1) := by decide +kernel
theorem dX9_reads_80 : decode cX9_reads 80 = .ok (.iload 8, 2) := by decide +kernel
theorem dX9_reads_82 : decode cX9_reads 82 = .ok (.iconst 0, 1) := by decide +kernel
theorem dX9_reads_83 : decode cX9_reads 83 = .ok (.invokevirtual 101, 3) := by decide +kernel
theorem dX9_reads_86 : decode cX9_reads 86 = .ok (.invokestatic 110, 3) := by decide +kernel
theorem dX9_reads_89 : decode cX9_reads 89 = .ok (.ifCond .eq 10, 3) := by decide +kernel
theorem dX9_reads_92 : decode cX9_reads 92 = .ok (.iconst 1, 1) := by decide +kernel
theorem dX9_reads_93 : decode cX9_reads 93 = .ok (.iload 7, 2) := by decide +kernel
theorem dX9_reads_95 : decode cX9_reads 95 = .ok (.ishl, 1) := by decide +kernel
theorem dX9_reads_96 : decode cX9_reads 96 = .ok (.goto 4, 3) := by decide +kernel
theorem dX9_reads_99 : decode cX9_reads 99 = .ok (.iconst 0, 1) := by decide +kernel
theorem dX9_reads_100 : decode cX9_reads 100 = .ok (.ior, 1) := by decide +kernel
theorem dX9_reads_101 : decode cX9_reads 101 = .ok (.istore 6, 2) := by decide +kernel
theorem dX9_reads_103 : decode cX9_reads 103 = .ok (.iinc 7 1, 3) := by decide +kernel
theorem dX9_reads_106 : decode cX9_reads 106 = .ok (.goto (-49), 3) := by decide +kernel
theorem dX9_reads_109 : decode cX9_reads 109 = .ok (.iload 6, 2) := by decide +kernel
theorem dX9_reads_111 : decode cX9_reads 111 = .ok (.ireturn, 1) := by decide +kernel
theorem dX9_forbidsSome_0 : decode cX9_forbidsSome 0 = .ok (.iconst 0, 1) := by decide +kernel
theorem dX9_forbidsSome_1 : decode cX9_forbidsSome 1 = .ok (.istore 5, 2) := by decide +kernel
theorem dX9_forbidsSome_3 : decode cX9_forbidsSome 3 = .ok (.iconst 0, 1) := by decide +kernel
theorem dX9_forbidsSome_4 : decode cX9_forbidsSome 4 = .ok (.istore 6, 2) := by decide +kernel
theorem dX9_forbidsSome_6 : decode cX9_forbidsSome 6 = .ok (.iload 6, 2) := by decide +kernel
theorem dX9_forbidsSome_8 : decode cX9_forbidsSome 8 = .ok (.bipush 6, 2) := by decide +kernel
theorem dX9_forbidsSome_10 : decode cX9_forbidsSome 10 = .ok (.if_icmp .ge 46, 3) := by decide +kernel
theorem dX9_forbidsSome_13 : decode cX9_forbidsSome 13 = .ok (.iload 5, 2) := by decide +kernel
theorem dX9_forbidsSome_15 : decode cX9_forbidsSome 15 = .ok (.ifCond .ne 41, 3) := by decide +kernel
theorem dX9_forbidsSome_18 : decode cX9_forbidsSome 18 = .ok (.iload_n 2, 1) := by decide +kernel
theorem dX9_forbidsSome_19 : decode cX9_forbidsSome 19 = .ok (.iload 6, 2) := by decide +kernel
theorem dX9_forbidsSome_21 : decode cX9_forbidsSome 21 = .ok (.ishr, 1) := by decide +kernel
theorem dX9_forbidsSome_22 : decode cX9_forbidsSome 22 = .ok (.iconst 1, 1) := by decide +kernel
theorem dX9_forbidsSome_23 : decode cX9_forbidsSome 23 = .ok (.iand, 1) := by decide +kernel
theorem dX9_forbidsSome_24 : decode cX9_forbidsSome 24 = .ok (.iconst 1, 1) := by decide +kernel
theorem dX9_forbidsSome_25 : decode cX9_forbidsSome 25 = .ok (.if_icmp .ne 22, 3) := by decide +kernel
theorem dX9_forbidsSome_28 : decode cX9_forbidsSome 28 = .ok (.aload_n 0, 1) := by decide +kernel
theorem dX9_forbidsSome_29 : decode cX9_forbidsSome 29 = .ok (.iload_n 1, 1) := by decide +kernel
theorem dX9_forbidsSome_30 : decode cX9_forbidsSome 30 = .ok (.iload 6, 2) := by decide +kernel
theorem dX9_forbidsSome_32 : decode cX9_forbidsSome 32 = .ok (.iload_n 3, 1) := by decide +kernel
theorem dX9_forbidsSome_33 : decode cX9_forbidsSome 33 = .ok (.iconst 0, 1) := by decide +kernel
theorem dX9_forbidsSome_34 : decode cX9_forbidsSome 34 = .ok (.iconst 0, 1) := by decide +kernel
theorem dX9_forbidsSome_35 : decode cX9_forbidsSome 35 = .ok (.iload 4, 2) := by decide +kernel
theorem dX9_forbidsSome_37 : decode cX9_forbidsSome 37 = .ok (.invokevirtual 161, 3) := by decide +kernel
theorem dX9_forbidsSome_40 : decode cX9_forbidsSome 40 = .ok (.ifCond .ne 7, 3) := by decide +kernel
theorem dX9_forbidsSome_43 : decode cX9_forbidsSome 43 = .ok (.iconst 1, 1) := by decide +kernel
theorem dX9_forbidsSome_44 : decode cX9_forbidsSome 44 = .ok (.goto 4, 3) := by decide +kernel
theorem dX9_forbidsSome_47 : decode cX9_forbidsSome 47 = .ok (.iconst 0, 1) := by decide +kernel
theorem dX9_forbidsSome_48 : decode cX9_forbidsSome 48 = .ok (.istore 5, 2) := by decide +kernel
theorem dX9_forbidsSome_50 : decode cX9_forbidsSome 50 = .ok (.iinc 6 1, 3) := by decide +kernel
theorem dX9_forbidsSome_53 : decode cX9_forbidsSome 53 = .ok (.goto (-47), 3) := by decide +kernel
theorem dX9_forbidsSome_56 : decode cX9_forbidsSome 56 = .ok (.iload 5, 2) := by decide +kernel
theorem dX9_forbidsSome_58 : decode cX9_forbidsSome 58 = .ok (.ireturn, 1) := by decide +kernel
theorem dX9_givesIn_0 : decode cX9_givesIn 0 = .ok (.iload_n 1, 1) := by decide +kernel
theorem dX9_givesIn_1 : decode cX9_givesIn 1 = .ok (.istore 5, 2) := by decide +kernel
theorem dX9_givesIn_3 : decode cX9_givesIn 3 = .ok (.iload_n 2, 1) := by decide +kernel
theorem dX9_givesIn_4 : decode cX9_givesIn 4 = .ok (.istore 6, 2) := by decide +kernel
theorem dX9_givesIn_6 : decode cX9_givesIn 6 = .ok (.iconst 0, 1) := by decide +kernel
theorem dX9_givesIn_7 : decode cX9_givesIn 7 = .ok (.istore 7, 2) := by decide +kernel
theorem dX9_givesIn_9 : decode cX9_givesIn 9 = .ok (.iload 7, 2) := by decide +kernel
theorem dX9_givesIn_11 : decode cX9_givesIn 11 = .ok (.bipush 60, 2) := by decide +kernel
theorem dX9_givesIn_13 : decode cX9_givesIn 13 = .ok (.if_icmp .ge 106, 3) := by decide +kernel
theorem dX9_givesIn_16 : decode cX9_givesIn 16 = .ok (.iconst 0, 1) := by decide +kernel
theorem dX9_givesIn_17 : decode cX9_givesIn 17 = .ok (.istore 8, 2) := by decide +kernel
theorem dX9_givesIn_19 : decode cX9_givesIn 19 = .ok (.iload 8, 2) := by decide +kernel
theorem dX9_givesIn_21 : decode cX9_givesIn 21 = .ok (.aload_n 0, 1) := by decide +kernel
theorem dX9_givesIn_22 : decode cX9_givesIn 22 = .ok (.invokevirtual 39, 3) := by decide +kernel
theorem dX9_givesIn_25 : decode cX9_givesIn 25 = .ok (.if_icmp .ge 52, 3) := by decide +kernel
theorem dX9_givesIn_28 : decode cX9_givesIn 28 = .ok (.aload_n 0, 1) := by decide +kernel
theorem dX9_givesIn_29 : decode cX9_givesIn 29 = .ok (.iload 8, 2) := by decide +kernel
theorem dX9_givesIn_31 : decode cX9_givesIn 31 = .ok (.iload_n 3, 1) := by decide +kernel
theorem dX9_givesIn_32 : decode cX9_givesIn 32 = .ok (.iload 7, 2) := by decide +kernel
theorem dX9_givesIn_34 : decode cX9_givesIn 34 = .ok (.iload 4, 2) := by decide +kernel
theorem dX9_givesIn_36 : decode cX9_givesIn 36 = .ok (.invokevirtual 174, 3) := by decide +kernel
theorem dX9_givesIn_39 : decode cX9_givesIn 39 = .ok (.istore 9, 2) := by decide +kernel
theorem dX9_givesIn_41 : decode cX9_givesIn 41 = .ok (.iload 5, 2) := by decide +kernel
theorem dX9_givesIn_43 : decode cX9_givesIn 43 = .ok (.iload 9, 2) := by decide +kernel
theorem dX9_givesIn_45 : decode cX9_givesIn 45 = .ok (.ifCond .eq 7, 3) := by decide +kernel
theorem dX9_givesIn_48 : decode cX9_givesIn 48 = .ok (.iconst 1, 1) := by decide +kernel
theorem dX9_givesIn_49 : decode cX9_givesIn 49 = .ok (.goto 4, 3) := by decide +kernel
theorem dX9_givesIn_52 : decode cX9_givesIn 52 = .ok (.iconst 0, 1) := by decide +kernel
theorem dX9_givesIn_53 : decode cX9_givesIn 53 = .ok (.isub, 1) := by decide +kernel
theorem dX9_givesIn_54 : decode cX9_givesIn 54 = .ok (.istore 5, 2) := by decide +kernel
theorem dX9_givesIn_56 : decode cX9_givesIn 56 = .ok (.iload 6, 2) := by decide +kernel
theorem dX9_givesIn_58 : decode cX9_givesIn 58 = .ok (.iload 9, 2) := by decide +kernel
theorem dX9_givesIn_60 : decode cX9_givesIn 60 = .ok (.ifCond .eq 7, 3) := by decide +kernel
theorem dX9_givesIn_63 : decode cX9_givesIn 63 = .ok (.iconst 0, 1) := by decide +kernel
theorem dX9_givesIn_64 : decode cX9_givesIn 64 = .ok (.goto 4, 3) := by decide +kernel
theorem dX9_givesIn_67 : decode cX9_givesIn 67 = .ok (.iconst 1, 1) := by decide +kernel
theorem dX9_givesIn_68 : decode cX9_givesIn 68 = .ok (.isub, 1) := by decide +kernel
theorem dX9_givesIn_69 : decode cX9_givesIn 69 = .ok (.istore 6, 2) := by decide +kernel
theorem dX9_givesIn_71 : decode cX9_givesIn 71 = .ok (.iinc 8 1, 3) := by decide +kernel
theorem dX9_givesIn_74 : decode cX9_givesIn 74 = .ok (.goto (-55), 3) := by decide +kernel
theorem dX9_givesIn_77 : decode cX9_givesIn 77 = .ok (.iload 5, 2) := by decide +kernel
theorem dX9_givesIn_79 : decode cX9_givesIn 79 = .ok (.ifCond .le 8, 3) := by decide +kernel
theorem dX9_givesIn_82 : decode cX9_givesIn 82 = .ok (.iload 6, 2) := by decide +kernel
theorem dX9_givesIn_84 : decode cX9_givesIn 84 = .ok (.ifCond .gt 29, 3) := by decide +kernel
theorem dX9_givesIn_87 : decode cX9_givesIn 87 = .ok (.aload_n 0, 1) := by decide +kernel
theorem dX9_givesIn_88 : decode cX9_givesIn 88 = .ok (.iload 5, 2) := by decide +kernel
theorem dX9_givesIn_90 : decode cX9_givesIn 90 = .ok (.ifCond .le 7, 3) := by decide +kernel
theorem dX9_givesIn_93 : decode cX9_givesIn 93 = .ok (.iconst 1, 1) := by decide +kernel
theorem dX9_givesIn_94 : decode cX9_givesIn 94 = .ok (.goto 13, 3) := by decide +kernel
theorem dX9_givesIn_97 : decode cX9_givesIn 97 = .ok (.iload 6, 2) := by decide +kernel
theorem dX9_givesIn_99 : decode cX9_givesIn 99 = .ok (.ifCond .le 7, 3) := by decide +kernel
theorem dX9_givesIn_102 : decode cX9_givesIn 102 = .ok (.iconst 0, 1) := by decide +kernel
theorem dX9_givesIn_103 : decode cX9_givesIn 103 = .ok (.goto 4, 3) := by decide +kernel
theorem dX9_givesIn_106 : decode cX9_givesIn 106 = .ok (.iconst 2, 1) := by decide +kernel
theorem dX9_givesIn_107 : decode cX9_givesIn 107 = .ok (.putfield 178, 3) := by decide +kernel
theorem dX9_givesIn_110 : decode cX9_givesIn 110 = .ok (.iload 7, 2) := by decide +kernel
theorem dX9_givesIn_112 : decode cX9_givesIn 112 = .ok (.ireturn, 1) := by decide +kernel
theorem dX9_givesIn_113 : decode cX9_givesIn 113 = .ok (.iinc 7 1, 3) := by decide +kernel
theorem dX9_givesIn_116 : decode cX9_givesIn 116 = .ok (.goto (-107), 3) := by decide +kernel
theorem dX9_givesIn_119 : decode cX9_givesIn 119 = .ok (.aload_n 0, 1) := by decide +kernel
theorem dX9_givesIn_120 : decode cX9_givesIn 120 = .ok (.iconst (-1), 1) := by decide +kernel
theorem dX9_givesIn_121 : decode cX9_givesIn 121 = .ok (.putfield 178, 3) := by decide +kernel
theorem dX9_givesIn_124 : decode cX9_givesIn 124 = .ok (.iconst (-1), 1) := by decide +kernel
theorem dX9_givesIn_125 : decode cX9_givesIn 125 = .ok (.ireturn, 1) := by decide +kernel
theorem kX9_contradict : zCV yX9_contradict RX9 cX9_contradict 8 (some .int) 3 := ⟨q4_212, q4_213, q1_3, q4_214, rfl, by decide +kernel, by decide +kernel, by decide +kernel⟩
theorem kX9_allAgree : zCV yX9_allAgree RX9 cX9_allAgree 7 (some .boolean) 3 := ⟨q4_228, qp33, q1_3, q4_229, rfl, by decide +kernel, by decide +kernel, by decide +kernel⟩
theorem kX9_settle : zCV yX9_settle RX9 cX9_settle 6 (some .int) 2 := ⟨q4_216, q4_217, q1_3, q4_218, rfl, by decide +kernel, by decide +kernel, by decide +kernel⟩
theorem kX9_reads : zCV yX9_reads RX9 cX9_reads 9 (some .int) 5 := ⟨q4_231, q4_232, q1_3, q4_233, rfl, by decide +kernel, by decide +kernel, by decide +kernel⟩
theorem kX9_forbidsSome : zCV yX9_forbidsSome RX9 cX9_forbidsSome 7 (some .boolean) 4 := ⟨q5_5, qp35, q1_3, q5_6, rfl, by decide +kernel, by decide +kernel, by decide +kernel⟩
theorem kX9_givesIn : zCV yX9_givesIn RX9 cX9_givesIn 10 (some .int) 4 := ⟨q5_1, qp34, q1_3, q5_2, rfl, by decide +kernel, by decide +kernel, by decide +kernel⟩
set_option maxHeartbeats 4000000 in
set_option maxRecDepth 100000 in
theorem c_X9_contradict (l : Launch) (g : zG) (o : Nat) (a : Nat → Nat) (F : Nat → Int32) (L : Nat → Int64) (A : Nat → Nat → Int32) (X : va_W) (T : Nat) (C : Nat) (V : Nat) (U : Nat) (ac : Int32) (dd : Int32) (i : Int32) (hn : nOK (A 0) T C V U) : Met l yX9_contradict (Cond.code yX9_contradict cX9_contradict 8 (some .int) :: TBL) { frames := 6, cells := 0, slots := 0, locals := 154 } (zPc [.ref o, .int ac, .int dd, .int i] g (mW g o a F L A ++ X)) (zQi g (fun r ws => ∃ (F1 : Nat → Int32), r = (contradictR (A 0) T C ac dd i) ∧ ws = mW g o a F1 L (chk (contradictOK ac dd i) A) ++ X ∧ F1 16 = F 16)) 0 0 (zA (gz g)) := by
  refine z_start (by decide +kernel) rfl (Nat.le_of_ble_eq_true rfl) ?_
  intro p e s m args below meth c ls hE hr hnm hB hl
  have hl : lv_has ls 8 [(0, .ref o), (1, .int ac), (2, .int dd), (3, .int i)] := hl
  revert hB
  generalize s.heap = H
  generalize ([] : List Loc) = locs
  intro hB
  have hT := hn.T
  have hT6 := hn.T6
  have hC := hn.C
  have hC8 := hn.C8
  have hV := hn.V
  have hV8 := hn.V8
  have hU := hn.U
  have hU8 := hn.U8
  have h16 : F 16 = F 16 := rfl
  refine lv_iload_n hE.x hE.b dX9_contradict_0 rfl (lv_at hl 1 rfl) ?_
  refine z_qi hB (z_cS hE hB (c_X9_isAct l g ac (mW g o a F L A ++ X)) q4_119 kX9_isAct ⟨rfl, rfl⟩ ⟨Nat.le_of_ble_eq_true rfl, Nat.le_of_ble_eq_true rfl⟩ rfl hl.1 rfl (Nat.le_of_ble_eq_true rfl) dX9_contradict_1 ⟨Nat.le_of_ble_eq_true rfl, Nat.le_of_ble_eq_true rfl⟩) (fun r_1 w_2 H locs hw hB => ?_)
  obtain ⟨hr9, hw9⟩ := hw
  have hr9 := hr9.symm
  subst hr9
  have hw9 := hw9.symm
  subst hw9
  refine z_bf (b := (pIn 0 5 ac)) (tgt := 19) hE dX9_contradict_4 (by decide) (fun c_3 => ?_) (fun c_3 => ?_)
  · refine lv_aload_n hE.x hE.b dX9_contradict_19 rfl (lv_at hl 0 rfl) ?_
    refine lv_bipush (v := (-10)) hE.x hE.b dX9_contradict_20 rfl ?_
    refine z_qi hB (z_cV hE hB (c_X9_bad l g o a F L A X (-10)) q4_91 kX9_bad ⟨rfl, rfl⟩ ⟨Nat.le_of_ble_eq_true rfl, Nat.le_of_ble_eq_true rfl⟩ 0 rfl rfl rfl hl.1 rfl (Nat.le_of_ble_eq_true rfl) dX9_contradict_22 ⟨Nat.le_of_ble_eq_true rfl, Nat.le_of_ble_eq_true rfl⟩) (fun r_4 w_5 H locs hw hB => ?_)
    obtain ⟨hr9, hw9⟩ := hw
    have hr9 := hr9.symm
    subst hr9
    have hw9 := hw9.symm
    subst hw9
    exact z_iret (v := (-10)) (ws := mW g o a F L (bump 0 A) ++ X) hE hB hr (⟨F, by unfold contradictR contradictOK; simp only [c_3, Bool.and_false, Bool.false_and, Bool.false_eq_true, if_false, Bool.and_true], by unfold chk contradictOK; simp only [c_3, Bool.and_false, Bool.false_and, Bool.false_eq_true, if_false, Bool.and_true], rfl⟩) dX9_contradict_25
  · refine lv_iload_n hE.x hE.b dX9_contradict_7 rfl (lv_at hl 2 rfl) ?_
    refine z_qi hB (z_cS hE hB (c_X9_isDay l g dd (mW g o a F L A ++ X)) q4_170 kX9_isDay ⟨rfl, rfl⟩ ⟨Nat.le_of_ble_eq_true rfl, Nat.le_of_ble_eq_true rfl⟩ rfl hl.1 rfl (Nat.le_of_ble_eq_true rfl) dX9_contradict_8 ⟨Nat.le_of_ble_eq_true rfl, Nat.le_of_ble_eq_true rfl⟩) (fun r_6 w_7 H locs hw hB => ?_)
    obtain ⟨hr9, hw9⟩ := hw
    have hr9 := hr9.symm
    subst hr9
    have hw9 := hw9.symm
    subst hw9
    refine z_bf (b := (pIn 0 59 dd)) (tgt := 19) hE dX9_contradict_11 (by decide) (fun c_8 => ?_) (fun c_8 => ?_)
    · refine lv_aload_n hE.x hE.b dX9_contradict_19 rfl (lv_at hl 0 rfl) ?_
      refine lv_bipush (v := (-10)) hE.x hE.b dX9_contradict_20 rfl ?_
      refine z_qi hB (z_cV hE hB (c_X9_bad l g o a F L A X (-10)) q4_91 kX9_bad ⟨rfl, rfl⟩ ⟨Nat.le_of_ble_eq_true rfl, Nat.le_of_ble_eq_true rfl⟩ 0 rfl rfl rfl hl.1 rfl (Nat.le_of_ble_eq_true rfl) dX9_contradict_22 ⟨Nat.le_of_ble_eq_true rfl, Nat.le_of_ble_eq_true rfl⟩) (fun r_9 w_10 H locs hw hB => ?_)
      obtain ⟨hr9, hw9⟩ := hw
      have hr9 := hr9.symm
      subst hr9
      have hw9 := hw9.symm
      subst hw9
      exact z_iret (v := (-10)) (ws := mW g o a F L (bump 0 A) ++ X) hE hB hr (⟨F, by unfold contradictR contradictOK; simp only [c_3, c_8, Bool.and_false, Bool.false_and, Bool.false_eq_true, if_false, Bool.and_true], by unfold chk contradictOK; simp only [c_3, c_8, Bool.and_false, Bool.false_and, Bool.false_eq_true, if_false, Bool.and_true], rfl⟩) dX9_contradict_25
    · refine lv_iload_n hE.x hE.b dX9_contradict_14 rfl (lv_at hl 3 rfl) ?_
      refine lv_iconst (v := (-1)) hE.x hE.b dX9_contradict_15 rfl ?_
      refine z_ge (tgt := 26) (X := i.toInt) (Y := (-1 : Int)) hE dX9_contradict_16 (by decide) rfl rfl (fun c_11 => ?_) (fun c_11 => ?_)
      · refine lv_iconst (v := nI 0) hE.x hE.b dX9_contradict_26 rfl ?_
        refine lv_istore (lv' := [(4, .int (nI 0)), (0, .ref o), (1, .int ac), (2, .int dd), (3, .int i)]) hE.x hE.b dX9_contradict_27 hl (by decide) rfl (fun ls hl => ?_)
        refine lv_bipush (v := (-5)) hE.x hE.b dX9_contradict_29 rfl ?_
        refine lv_istore (lv' := [(5, .int (-5)), (4, .int (nI 0)), (0, .ref o), (1, .int ac), (2, .int dd), (3, .int i)]) hE.x hE.b dX9_contradict_31 hl (by decide) rfl (fun ls hl => ?_)
        refine lv_iconst (v := nI 0) hE.x hE.b dX9_contradict_33 rfl ?_
        refine lv_istore (lv' := [(6, .int (nI 0)), (5, .int (-5)), (4, .int (nI 0)), (0, .ref o), (1, .int ac), (2, .int dd), (3, .int i)]) hE.x hE.b dX9_contradict_34 hl (by decide) rfl (fun ls hl => ?_)
        have k36 : ∀ (fu : Nat) (many : Nat) (found : Int32) (x : Nat) (F1 : Nat → Int32) (H : Heap) (locs : List Loc) (ls : Array Slot), T - x < fu → (x ≤ T) → (F1 16 = F 16) → ((many, found) = cdA (cdAl (A 0) C ac dd) T i x) → zB g s (mW g o a F1 L A ++ X) H locs → lv_has ls 8 [(6, .int (nI x)), (5, .int found), (4, .int (nI many)), (0, .ref o), (1, .int ac), (2, .int dd), (3, .int i)] → W p l e { frames := 6, cells := 0, slots := 0, locals := 154 } s m args below meth c H locs 0 0 (MQ below (zQi g (fun r ws => ∃ (F1 : Nat → Int32), r = (contradictR (A 0) T C ac dd i) ∧ ws = mW g o a F1 L (chk (contradictOK ac dd i) A) ++ X ∧ F1 16 = F 16)) args s 0 0 (zA (gz g))) (F0 m 36 ls []) := by
          intro fu
          induction fu with
          | zero => intro many found x F1 H locs ls hfu hx h16 hm hB hl; exact absurd hfu (Nat.not_lt_zero _)
          | succ fu ih36 =>
            intro many found x F1 H locs ls hfu hx h16 hm hB hl
            refine lv_iload hE.x hE.b dX9_contradict_36 (lv_at hl 0 rfl) ?_
            refine lv_aload_n hE.x hE.b dX9_contradict_38 rfl (lv_at hl 3 rfl) ?_
            refine z_qi hB (z_cV hE hB (c_X9_towns l g o a F1 L A X T hT) q4_76 kX9_towns ⟨rfl, rfl⟩ ⟨Nat.le_of_ble_eq_true rfl, Nat.le_of_ble_eq_true rfl⟩ 0 rfl rfl rfl hl.1 rfl (Nat.le_of_ble_eq_true rfl) dX9_contradict_39 ⟨Nat.le_of_ble_eq_true rfl, Nat.le_of_ble_eq_true rfl⟩) (fun r_12 w_13 H locs hw hB => ?_)
            obtain ⟨hr9, hw9⟩ := hw
            have hr9 := hr9.symm
            subst hr9
            have hw9 := hw9.symm
            subst hw9
            refine z_ge (tgt := 121) (X := ((x : Nat) : Int)) (Y := ((T : Nat) : Int)) hE dX9_contradict_42 (by decide) (nI_toInt (n := x) (by omega)) (nI_toInt (n := T) (by omega)) (fun c_14 => ?_) (fun c_14 => ?_)
            · refine lv_iload_n hE.x hE.b dX9_contradict_121 rfl (lv_at hl 6 rfl) ?_
              refine lv_iconst (v := (-1)) hE.x hE.b dX9_contradict_122 rfl ?_
              refine lv_icmp_ne (tgt := 131) hE.x hE.b dX9_contradict_123 (by decide) (fun c_15 => ?_) (fun c_15 => ?_)
              · refine lv_iload hE.x hE.b dX9_contradict_131 (lv_at hl 1 rfl) ?_
                exact z_iret (v := found) (ws := mW g o a F1 L A ++ X) hE hB hr (⟨F1, by unfold contradictR contradictOK; simp only [c_3, c_8, decide_eq_true (show -1 ≤ i.toInt by omega), Bool.and_true, if_true]; rw [show x = T by omega] at hm; rw [if_neg c_15, ← hm], by unfold chk contradictOK; simp only [c_3, c_8, decide_eq_true (show -1 ≤ i.toInt by omega), Bool.and_true, if_true], h16⟩) dX9_contradict_133
              · refine lv_iload hE.x hE.b dX9_contradict_126 (lv_at hl 2 rfl) ?_
                refine lv_goto (tgt := 133) hE.x hE.b dX9_contradict_128 (by decide) ?_
                exact z_iret (v := (nI many)) (ws := mW g o a F1 L A ++ X) hE hB hr (⟨F1, by unfold contradictR contradictOK; simp only [c_3, c_8, decide_eq_true (show -1 ≤ i.toInt by omega), Bool.and_true, if_true]; rw [show x = T by omega] at hm; rw [if_pos c_15, ← hm], by unfold chk contradictOK; simp only [c_3, c_8, decide_eq_true (show -1 ≤ i.toInt by omega), Bool.and_true, if_true], h16⟩) dX9_contradict_133
            · refine lv_iload hE.x hE.b dX9_contradict_45 (lv_at hl 0 rfl) ?_
              refine lv_iconst (v := nI 1) hE.x hE.b dX9_contradict_47 rfl ?_
              refine z_iaddN hE dX9_contradict_48 ?_
              refine lv_istore (lv' := [(7, .int (nI (x + 1))), (6, .int (nI x)), (5, .int found), (4, .int (nI many)), (0, .ref o), (1, .int ac), (2, .int dd), (3, .int i)]) hE.x hE.b dX9_contradict_49 hl (by decide) rfl (fun ls hl => ?_)
              have k51 : ∀ (fu : Nat) (many : Nat) (found : Int32) (k : Nat) (F1 : Nat → Int32) (H : Heap) (locs : List Loc) (ls : Array Slot), T - k < fu → (k ≤ T - (x + 1)) → (F1 16 = F 16) → ((many, found) = cdB (cdAl (A 0) C ac dd) i x (cdA (cdAl (A 0) C ac dd) T i x) k) → zB g s (mW g o a F1 L A ++ X) H locs → lv_has ls 8 [(7, .int (nI (x + 1 + k))), (6, .int (nI x)), (5, .int found), (4, .int (nI many)), (0, .ref o), (1, .int ac), (2, .int dd), (3, .int i)] → W p l e { frames := 6, cells := 0, slots := 0, locals := 154 } s m args below meth c H locs 0 0 (MQ below (zQi g (fun r ws => ∃ (F1 : Nat → Int32), r = (contradictR (A 0) T C ac dd i) ∧ ws = mW g o a F1 L (chk (contradictOK ac dd i) A) ++ X ∧ F1 16 = F 16)) args s 0 0 (zA (gz g))) (F0 m 51 ls []) := by
                intro fu
                induction fu with
                | zero => intro many found k F1 H locs ls hfu hk h16 hm hB hl; exact absurd hfu (Nat.not_lt_zero _)
                | succ fu ih51 =>
                  intro many found k F1 H locs ls hfu hk h16 hm hB hl
                  refine lv_iload hE.x hE.b dX9_contradict_51 (lv_at hl 0 rfl) ?_
                  refine lv_aload_n hE.x hE.b dX9_contradict_53 rfl (lv_at hl 4 rfl) ?_
                  refine z_qi hB (z_cV hE hB (c_X9_towns l g o a F1 L A X T hT) q4_76 kX9_towns ⟨rfl, rfl⟩ ⟨Nat.le_of_ble_eq_true rfl, Nat.le_of_ble_eq_true rfl⟩ 0 rfl rfl rfl hl.1 rfl (Nat.le_of_ble_eq_true rfl) dX9_contradict_54 ⟨Nat.le_of_ble_eq_true rfl, Nat.le_of_ble_eq_true rfl⟩) (fun r_16 w_17 H locs hw hB => ?_)
                  obtain ⟨hr9, hw9⟩ := hw
                  have hr9 := hr9.symm
                  subst hr9
                  have hw9 := hw9.symm
                  subst hw9
                  refine z_ge (tgt := 115) (X := (((x + 1 + k) : Nat) : Int)) (Y := ((T : Nat) : Int)) hE dX9_contradict_57 (by decide) (nI_toInt (n := (x + 1 + k)) (by omega)) (nI_toInt (n := T) (by omega)) (fun c_18 => ?_) (fun c_18 => ?_)
                  · refine lv_iinc (v := (nI (x + 1))) (lv' := [(6, .int (nI (x + 1))), (7, .int (nI (x + 1 + k))), (5, .int found), (4, .int (nI many)), (0, .ref o), (1, .int ac), (2, .int dd), (3, .int i)]) hE.x hE.b dX9_contradict_115 hl (k := 1) rfl (nI_add _ _) (by decide) rfl (fun ls hl => ?_)
                    refine lv_goto (tgt := 36) hE.x hE.b dX9_contradict_118 (by decide) ?_
                    exact ih36 many found (x + 1) F1 _ _ _ (by omega) (by omega) h16 (by rw [show k = T - (x + 1) by omega] at hm; exact hm) hB (lv_sub hl [0, 2, 3, 4, 5, 6, 7] rfl)
                  · refine lv_aload_n hE.x hE.b dX9_contradict_60 rfl (lv_at hl 4 rfl) ?_
                    refine lv_iload hE.x hE.b dX9_contradict_61 (lv_at hl 1 rfl) ?_
                    refine lv_iload_n hE.x hE.b dX9_contradict_63 rfl (lv_at hl 5 rfl) ?_
                    refine lv_iload_n hE.x hE.b dX9_contradict_64 rfl (lv_at hl 6 rfl) ?_
                    refine lv_iconst (v := nI 0) hE.x hE.b dX9_contradict_65 rfl ?_
                    refine lv_iconst (v := nI 0) hE.x hE.b dX9_contradict_66 rfl ?_
                    refine lv_iconst (v := nI 0) hE.x hE.b dX9_contradict_67 rfl ?_
                    refine z_qi hB (z_cV hE hB (c_X9_isAllowed l g o a F1 L A X C x ac dd (nI 0) (nI 0) 0 hC (by omega) (by omega) (by omega)) q4_207 kX9_isAllowed ⟨rfl, rfl⟩ ⟨Nat.le_of_ble_eq_true rfl, Nat.le_of_ble_eq_true rfl⟩ 0 rfl rfl rfl hl.1 rfl (Nat.le_of_ble_eq_true rfl) dX9_contradict_68 ⟨Nat.le_of_ble_eq_true rfl, Nat.le_of_ble_eq_true rfl⟩) (fun r_19 w_20 H locs hw hB => ?_)
                    obtain ⟨F1_21, hr9, hw9, hf_22⟩ := hw
                    have hr9 := hr9.symm
                    subst hr9
                    have hw9 := hw9.symm
                    subst hw9
                    have h16 := hf_22.trans h16
                    refine lv_aload_n hE.x hE.b dX9_contradict_71 rfl (lv_at hl 4 rfl) ?_
                    refine lv_iload hE.x hE.b dX9_contradict_72 (lv_at hl 0 rfl) ?_
                    refine lv_iload_n hE.x hE.b dX9_contradict_74 rfl (lv_at hl 5 rfl) ?_
                    refine lv_iload_n hE.x hE.b dX9_contradict_75 rfl (lv_at hl 6 rfl) ?_
                    refine lv_iconst (v := nI 0) hE.x hE.b dX9_contradict_76 rfl ?_
                    refine lv_iconst (v := nI 0) hE.x hE.b dX9_contradict_77 rfl ?_
                    refine lv_iconst (v := nI 0) hE.x hE.b dX9_contradict_78 rfl ?_
                    refine z_qi hB (z_cV hE hB (c_X9_isAllowed l g o a F1_21 L A X C (x + 1 + k) ac dd (nI 0) (nI 0) 0 hC (by omega) (by omega) (by omega)) q4_207 kX9_isAllowed ⟨rfl, rfl⟩ ⟨Nat.le_of_ble_eq_true rfl, Nat.le_of_ble_eq_true rfl⟩ 0 rfl rfl rfl hl.1 rfl (Nat.le_of_ble_eq_true rfl) dX9_contradict_79 ⟨Nat.le_of_ble_eq_true rfl, Nat.le_of_ble_eq_true rfl⟩) (fun r_23 w_24 H locs hw hB => ?_)
                    obtain ⟨F1_25, hr9, hw9, hf_26⟩ := hw
                    have hr9 := hr9.symm
                    subst hr9
                    have hw9 := hw9.symm
                    subst hw9
                    have h16 := hf_26.trans h16
                    have hmb := cdA_bd hm hT6 (by omega) (by omega)
                    refine lv_icmp_eq (tgt := 109) hE.x hE.b dX9_contradict_82 (by decide) (fun c_27 => ?_) (fun c_27 => ?_)
                    · refine lv_iinc (v := (nI ((x + 1 + k) + 1))) (lv' := [(7, .int (nI ((x + 1 + k) + 1))), (6, .int (nI x)), (5, .int found), (4, .int (nI many)), (0, .ref o), (1, .int ac), (2, .int dd), (3, .int i)]) hE.x hE.b dX9_contradict_109 hl (k := 0) rfl (nI_add _ _) (by decide) rfl (fun ls hl => ?_)
                      refine lv_goto (tgt := 51) hE.x hE.b dX9_contradict_112 (by decide) ?_
                      exact ih51 many found (k + 1) F1_25 _ _ _ (by omega) (by omega) h16 (cdB_no hm (bI_inj c_27)) hB hl
                    · refine lv_iload hE.x hE.b dX9_contradict_85 (lv_at hl 3 rfl) ?_
                      refine lv_iload_n hE.x hE.b dX9_contradict_87 rfl (lv_at hl 7 rfl) ?_
                      refine lv_icmp_ne (tgt := 102) hE.x hE.b dX9_contradict_88 (by decide) (fun c_28 => ?_) (fun c_28 => ?_)
                      · refine lv_iload hE.x hE.b dX9_contradict_102 (lv_at hl 2 rfl) ?_
                        refine lv_istore (lv' := [(5, .int found), (7, .int (nI (x + 1 + k))), (6, .int (nI x)), (4, .int (nI many)), (0, .ref o), (1, .int ac), (2, .int dd), (3, .int i)]) hE.x hE.b dX9_contradict_104 hl (by decide) rfl (fun ls hl => ?_)
                        refine lv_iinc (v := (nI (many + 1))) (lv' := [(4, .int (nI (many + 1))), (5, .int found), (7, .int (nI (x + 1 + k))), (6, .int (nI x)), (0, .ref o), (1, .int ac), (2, .int dd), (3, .int i)]) hE.x hE.b dX9_contradict_106 hl (k := 3) rfl (nI_add _ _) (by decide) rfl (fun ls hl => ?_)
                        refine lv_iinc (v := (nI ((x + 1 + k) + 1))) (lv' := [(7, .int (nI ((x + 1 + k) + 1))), (4, .int (nI (many + 1))), (5, .int found), (6, .int (nI x)), (0, .ref o), (1, .int ac), (2, .int dd), (3, .int i)]) hE.x hE.b dX9_contradict_109 hl (k := 2) rfl (nI_add _ _) (by decide) rfl (fun ls hl => ?_)
                        refine lv_goto (tgt := 51) hE.x hE.b dX9_contradict_112 (by decide) ?_
                        exact ih51 (many + 1) found (k + 1) F1_25 _ _ _ (by omega) (by omega) h16 (cdB_ne hm (fun z => c_27 (congrArg bI z)) c_28) hB (lv_sub hl [0, 3, 2, 1, 4, 5, 6, 7] rfl)
                      · refine lv_bipush (v := (nI 10)) hE.x hE.b dX9_contradict_91 rfl ?_
                        refine lv_iload hE.x hE.b dX9_contradict_93 (lv_at hl 1 rfl) ?_
                        refine z_imulN hE dX9_contradict_95 ?_
                        refine lv_iload hE.x hE.b dX9_contradict_96 (lv_at hl 0 rfl) ?_
                        refine z_iaddN hE dX9_contradict_98 ?_
                        refine lv_goto (tgt := 104) hE.x hE.b dX9_contradict_99 (by decide) ?_
                        refine lv_istore (lv' := [(5, .int (nI ((10 * x) + (x + 1 + k)))), (7, .int (nI (x + 1 + k))), (6, .int (nI x)), (4, .int (nI many)), (0, .ref o), (1, .int ac), (2, .int dd), (3, .int i)]) hE.x hE.b dX9_contradict_104 hl (by decide) rfl (fun ls hl => ?_)
                        refine lv_iinc (v := (nI (many + 1))) (lv' := [(4, .int (nI (many + 1))), (5, .int (nI ((10 * x) + (x + 1 + k)))), (7, .int (nI (x + 1 + k))), (6, .int (nI x)), (0, .ref o), (1, .int ac), (2, .int dd), (3, .int i)]) hE.x hE.b dX9_contradict_106 hl (k := 3) rfl (nI_add _ _) (by decide) rfl (fun ls hl => ?_)
                        refine lv_iinc (v := (nI ((x + 1 + k) + 1))) (lv' := [(7, .int (nI ((x + 1 + k) + 1))), (4, .int (nI (many + 1))), (5, .int (nI ((10 * x) + (x + 1 + k)))), (6, .int (nI x)), (0, .ref o), (1, .int ac), (2, .int dd), (3, .int i)]) hE.x hE.b dX9_contradict_109 hl (k := 2) rfl (nI_add _ _) (by decide) rfl (fun ls hl => ?_)
                        refine lv_goto (tgt := 51) hE.x hE.b dX9_contradict_112 (by decide) ?_
                        exact ih51 (many + 1) (nI ((10 * x) + (x + 1 + k))) (k + 1) F1_25 _ _ _ (by omega) (by omega) h16 (cdB_eq hm (fun z => c_27 (congrArg bI z)) c_28) hB (lv_sub hl [0, 3, 2, 1, 4, 5, 6, 7] rfl)
              exact k51 (T - 0 + 1) many found 0 F1 _ _ _ (Nat.lt_succ_self _) (by omega) h16 hm hB hl
        exact k36 (T - 0 + 1) 0 (-5) 0 F _ _ _ (Nat.lt_succ_self _) (by omega) h16 rfl hB hl
      · refine lv_aload_n hE.x hE.b dX9_contradict_19 rfl (lv_at hl 0 rfl) ?_
        refine lv_bipush (v := (-10)) hE.x hE.b dX9_contradict_20 rfl ?_
        refine z_qi hB (z_cV hE hB (c_X9_bad l g o a F L A X (-10)) q4_91 kX9_bad ⟨rfl, rfl⟩ ⟨Nat.le_of_ble_eq_true rfl, Nat.le_of_ble_eq_true rfl⟩ 0 rfl rfl rfl hl.1 rfl (Nat.le_of_ble_eq_true rfl) dX9_contradict_22 ⟨Nat.le_of_ble_eq_true rfl, Nat.le_of_ble_eq_true rfl⟩) (fun r_29 w_30 H locs hw hB => ?_)
        obtain ⟨hr9, hw9⟩ := hw
        have hr9 := hr9.symm
        subst hr9
        have hw9 := hw9.symm
        subst hw9
        exact z_iret (v := (-10)) (ws := mW g o a F L (bump 0 A) ++ X) hE hB hr (⟨F, by unfold contradictR contradictOK; simp only [c_3, c_8, decide_eq_false (show ¬ -1 ≤ i.toInt by omega), Bool.and_false, Bool.false_and, Bool.false_eq_true, if_false, Bool.and_true], by unfold chk contradictOK; simp only [c_3, c_8, decide_eq_false (show ¬ -1 ≤ i.toInt by omega), Bool.and_false, Bool.false_and, Bool.false_eq_true, if_false, Bool.and_true], rfl⟩) dX9_contradict_25

set_option maxHeartbeats 4000000 in
set_option maxRecDepth 100000 in
theorem c_X9_allAgree (l : Launch) (g : zG) (o : Nat) (a : Nat → Nat) (F : Nat → Int32) (L : Nat → Int64) (A : Nat → Nat → Int32) (X : va_W) (C : Nat) (T : Nat) (ac : Nat) (dd : Int32) (S : Nat) (hT : A 0 0 = nI T) (hT6 : T ≤ 6) (hC : A 0 1 = nI C) (hC8 : C ≤ 8) (hac : ac < 64) (hS : S < 256) : Met l yX9_allAgree (Cond.code yX9_allAgree cX9_allAgree 7 (some .boolean) :: TBL) { frames := 6, cells := 0, slots := 0, locals := 154 } (zPc [.ref o, .int (nI ac), .int dd, .int (nI S)] g (mW g o a F L A ++ X)) (zQi g (fun r ws => ∃ (F1 : Nat → Int32), r = bI (agB (acAl (A 0) C dd S) T ac) ∧ ws = mW g o a F1 L A ++ X ∧ F1 16 = F 16)) 0 0 (zA (gz g)) := by
  refine z_start (by decide +kernel) rfl (Nat.le_of_ble_eq_true rfl) ?_
  intro p e s m args below meth c ls hE hr hnm hB hl
  have hl : lv_has ls 7 [(0, .ref o), (1, .int (nI ac)), (2, .int dd), (3, .int (nI S))] := hl
  revert hB
  generalize s.heap = H
  generalize ([] : List Loc) = locs
  intro hB
  have h16 : F 16 = F 16 := rfl
  refine lv_iconst (v := nI 1) hE.x hE.b dX9_allAgree_0 rfl ?_
  refine lv_istore (lv' := [(4, .int (nI 1)), (0, .ref o), (1, .int (nI ac)), (2, .int dd), (3, .int (nI S))]) hE.x hE.b dX9_allAgree_1 hl (by decide) rfl (fun ls hl => ?_)
  refine lv_iconst (v := nI 0) hE.x hE.b dX9_allAgree_3 rfl ?_
  refine lv_istore (lv' := [(5, .int (nI 0)), (4, .int (nI 1)), (0, .ref o), (1, .int (nI ac)), (2, .int dd), (3, .int (nI S))]) hE.x hE.b dX9_allAgree_4 hl (by decide) rfl (fun ls hl => ?_)
  have k6 : ∀ (fu : Nat) (act : Nat) (ag : Bool) (F1 : Nat → Int32) (H : Heap) (locs : List Loc) (ls : Array Slot), 6 - act < fu → (act ≤ 6) → (F1 16 = F 16) → (ag = true ↔ agP (acAl (A 0) C dd S) T ac act) → zB g s (mW g o a F1 L A ++ X) H locs → lv_has ls 7 [(5, .int (nI act)), (4, .int (bI ag)), (0, .ref o), (1, .int (nI ac)), (2, .int dd), (3, .int (nI S))] → W p l e { frames := 6, cells := 0, slots := 0, locals := 154 } s m args below meth c H locs 0 0 (MQ below (zQi g (fun r ws => ∃ (F1 : Nat → Int32), r = bI (agB (acAl (A 0) C dd S) T ac) ∧ ws = mW g o a F1 L A ++ X ∧ F1 16 = F 16)) args s 0 0 (zA (gz g))) (F0 m 6 ls []) := by
    intro fu
    induction fu with
    | zero => intro act ag F1 H locs ls hfu hact h16 hag hB hl; exact absurd hfu (Nat.not_lt_zero _)
    | succ fu ih6 =>
      intro act ag F1 H locs ls hfu hact h16 hag hB hl
      refine lv_iload hE.x hE.b dX9_allAgree_6 (lv_at hl 0 rfl) ?_
      refine lv_bipush (v := (nI 6)) hE.x hE.b dX9_allAgree_8 rfl ?_
      refine z_ge (tgt := 90) (X := ((act : Nat) : Int)) (Y := (6 : Int)) hE dX9_allAgree_10 (by decide) (nI_toInt (n := act) (by omega)) rfl (fun c_1 => ?_) (fun c_1 => ?_)
      · refine lv_iload hE.x hE.b dX9_allAgree_90 (lv_at hl 1 rfl) ?_
        exact z_bret (b := ag) (ws := mW g o a F1 L A ++ X) hE hB hr (⟨F1, congrArg bI (agB_iff (by rw [show act = 6 by omega] at hag; exact hag)), rfl, h16⟩) dX9_allAgree_92
      · refine lv_iload hE.x hE.b dX9_allAgree_13 (lv_at hl 1 rfl) ?_
        refine z_bf (b := ag) (tgt := 90) hE dX9_allAgree_15 (by decide) (fun c_2 => ?_) (fun c_2 => ?_)
        · refine lv_iload hE.x hE.b dX9_allAgree_90 (lv_at hl 1 rfl) ?_
          exact z_bret (b := ag) (ws := mW g o a F1 L A ++ X) hE hB hr (⟨F1, congrArg bI (agB_iff ⟨fun h => (by rw [c_2] at h; cases h), fun h => hag.mpr (agP_mono h hact)⟩), rfl, h16⟩) dX9_allAgree_92
        · refine lv_iconst (v := nI 1) hE.x hE.b dX9_allAgree_18 rfl ?_
          refine lv_istore (lv' := [(6, .int (nI 1)), (5, .int (nI act)), (4, .int (bI ag)), (0, .ref o), (1, .int (nI ac)), (2, .int dd), (3, .int (nI S))]) hE.x hE.b dX9_allAgree_19 hl (by decide) rfl (fun ls hl => ?_)
          have k21 : ∀ (fu : Nat) (t : Nat) (ag : Bool) (F1 : Nat → Int32) (H : Heap) (locs : List Loc) (ls : Array Slot), 7 - t < fu → (1 ≤ t) → (t ≤ T ∨ t = 1) → (F1 16 = F 16) → (ag = true ↔ (agP (acAl (A 0) C dd S) T ac act ∧ (ac / 2 ^ act % 2 = 1 → ∀ t', 1 ≤ t' → t' < t → (acAl (A 0) C dd S) act t' = (acAl (A 0) C dd S) act 0))) → zB g s (mW g o a F1 L A ++ X) H locs → lv_has ls 7 [(6, .int (nI t)), (5, .int (nI act)), (4, .int (bI ag)), (0, .ref o), (1, .int (nI ac)), (2, .int dd), (3, .int (nI S))] → W p l e { frames := 6, cells := 0, slots := 0, locals := 154 } s m args below meth c H locs 0 0 (MQ below (zQi g (fun r ws => ∃ (F1 : Nat → Int32), r = bI (agB (acAl (A 0) C dd S) T ac) ∧ ws = mW g o a F1 L A ++ X ∧ F1 16 = F 16)) args s 0 0 (zA (gz g))) (F0 m 21 ls []) := by
            intro fu
            induction fu with
            | zero => intro t ag F1 H locs ls hfu ht1 htT h16 hag hB hl; exact absurd hfu (Nat.not_lt_zero _)
            | succ fu ih21 =>
              intro t ag F1 H locs ls hfu ht1 htT h16 hag hB hl
              refine lv_iload hE.x hE.b dX9_allAgree_21 (lv_at hl 0 rfl) ?_
              refine lv_aload_n hE.x hE.b dX9_allAgree_23 rfl (lv_at hl 3 rfl) ?_
              refine z_qi hB (z_cV hE hB (c_X9_towns l g o a F1 L A X T hT) q4_76 kX9_towns ⟨rfl, rfl⟩ ⟨Nat.le_of_ble_eq_true rfl, Nat.le_of_ble_eq_true rfl⟩ 0 rfl rfl rfl hl.1 rfl (Nat.le_of_ble_eq_true rfl) dX9_allAgree_24 ⟨Nat.le_of_ble_eq_true rfl, Nat.le_of_ble_eq_true rfl⟩) (fun r_3 w_4 H locs hw hB => ?_)
              obtain ⟨hr9, hw9⟩ := hw
              have hr9 := hr9.symm
              subst hr9
              have hw9 := hw9.symm
              subst hw9
              refine z_ge (tgt := 84) (X := ((t : Nat) : Int)) (Y := ((T : Nat) : Int)) hE dX9_allAgree_27 (by decide) (nI_toInt (n := t) (by omega)) (nI_toInt (n := T) (by omega)) (fun c_5 => ?_) (fun c_5 => ?_)
              · refine lv_iinc (v := (nI (act + 1))) (lv' := [(5, .int (nI (act + 1))), (6, .int (nI t)), (4, .int (bI ag)), (0, .ref o), (1, .int (nI ac)), (2, .int dd), (3, .int (nI S))]) hE.x hE.b dX9_allAgree_84 hl (k := 1) rfl (nI_add _ _) (by decide) rfl (fun ls hl => ?_)
                refine lv_goto (tgt := 6) hE.x hE.b dX9_allAgree_87 (by decide) ?_
                exact ih6 (act + 1) ag F1 _ _ _ (by omega) (by omega) h16 (ag_out hag htT (Or.inl (by omega))) hB (lv_sub hl [0, 2, 3, 4, 5, 6] rfl)
              · refine lv_iload hE.x hE.b dX9_allAgree_30 (lv_at hl 2 rfl) ?_
                refine z_bf (b := ag) (tgt := 84) hE dX9_allAgree_32 (by decide) (fun c_6 => ?_) (fun c_6 => ?_)
                · refine lv_iinc (v := (nI (act + 1))) (lv' := [(5, .int (nI (act + 1))), (6, .int (nI t)), (4, .int (bI ag)), (0, .ref o), (1, .int (nI ac)), (2, .int dd), (3, .int (nI S))]) hE.x hE.b dX9_allAgree_84 hl (k := 1) rfl (nI_add _ _) (by decide) rfl (fun ls hl => ?_)
                  refine lv_goto (tgt := 6) hE.x hE.b dX9_allAgree_87 (by decide) ?_
                  exact ih6 (act + 1) ag F1 _ _ _ (by omega) (by omega) h16 (ag_out hag htT (Or.inr (Or.inl c_6))) hB (lv_sub hl [0, 2, 3, 4, 5, 6] rfl)
                · refine lv_iload_n hE.x hE.b dX9_allAgree_35 rfl (lv_at hl 4 rfl) ?_
                  refine lv_iload hE.x hE.b dX9_allAgree_36 (lv_at hl 1 rfl) ?_
                  refine lv_ishr hE.x hE.b dX9_allAgree_38 ?_
                  refine z_top (y := (nI (ac / 2 ^ act))) (shr_nI (by omega) (by omega)) ?_
                  refine lv_iconst (v := nI 1) hE.x hE.b dX9_allAgree_39 rfl ?_
                  refine lv_iand hE.x hE.b dX9_allAgree_40 ?_
                  refine z_top (y := (nI (ac / 2 ^ act % 2))) (and1_nI (by have := Nat.div_le_self ac (2 ^ act); omega)) ?_
                  have hb2 : ac / 2 ^ act % 2 < 2 := Nat.mod_lt _ (by omega)
                  refine lv_iconst (v := nI 1) hE.x hE.b dX9_allAgree_41 rfl ?_
                  refine z_ne (tgt := 84) (X := (((ac / 2 ^ act % 2) : Nat) : Int)) (Y := (1 : Int)) hE dX9_allAgree_42 (by decide) (nI_toInt (n := (ac / 2 ^ act % 2)) (by omega)) rfl (fun c_7 => ?_) (fun c_7 => ?_)
                  · refine lv_iinc (v := (nI (act + 1))) (lv' := [(5, .int (nI (act + 1))), (6, .int (nI t)), (4, .int (bI ag)), (0, .ref o), (1, .int (nI ac)), (2, .int dd), (3, .int (nI S))]) hE.x hE.b dX9_allAgree_84 hl (k := 1) rfl (nI_add _ _) (by decide) rfl (fun ls hl => ?_)
                    refine lv_goto (tgt := 6) hE.x hE.b dX9_allAgree_87 (by decide) ?_
                    exact ih6 (act + 1) ag F1 _ _ _ (by omega) (by omega) h16 (ag_out hag htT (Or.inr (Or.inr (by omega)))) hB (lv_sub hl [0, 2, 3, 4, 5, 6] rfl)
                  · refine lv_aload_n hE.x hE.b dX9_allAgree_45 rfl (lv_at hl 3 rfl) ?_
                    refine lv_iload hE.x hE.b dX9_allAgree_46 (lv_at hl 0 rfl) ?_
                    refine lv_iload hE.x hE.b dX9_allAgree_48 (lv_at hl 1 rfl) ?_
                    refine lv_iload_n hE.x hE.b dX9_allAgree_50 rfl (lv_at hl 5 rfl) ?_
                    refine lv_iconst (v := nI 0) hE.x hE.b dX9_allAgree_51 rfl ?_
                    refine lv_iconst (v := nI 0) hE.x hE.b dX9_allAgree_52 rfl ?_
                    refine lv_iload_n hE.x hE.b dX9_allAgree_53 rfl (lv_at hl 6 rfl) ?_
                    refine z_qi hB (z_cV hE hB (c_X9_isAllowed l g o a F1 L A X C t (nI act) dd (nI 0) (nI 0) S hC (by omega) (by omega) (by omega)) q4_207 kX9_isAllowed ⟨rfl, rfl⟩ ⟨Nat.le_of_ble_eq_true rfl, Nat.le_of_ble_eq_true rfl⟩ 0 rfl rfl rfl hl.1 rfl (Nat.le_of_ble_eq_true rfl) dX9_allAgree_54 ⟨Nat.le_of_ble_eq_true rfl, Nat.le_of_ble_eq_true rfl⟩) (fun r_8 w_9 H locs hw hB => ?_)
                    obtain ⟨F1_10, hr9, hw9, hf_11⟩ := hw
                    have hr9 := hr9.symm
                    subst hr9
                    have hw9 := hw9.symm
                    subst hw9
                    have h16 := hf_11.trans h16
                    refine lv_aload_n hE.x hE.b dX9_allAgree_57 rfl (lv_at hl 3 rfl) ?_
                    refine lv_iconst (v := nI 0) hE.x hE.b dX9_allAgree_58 rfl ?_
                    refine lv_iload hE.x hE.b dX9_allAgree_59 (lv_at hl 1 rfl) ?_
                    refine lv_iload_n hE.x hE.b dX9_allAgree_61 rfl (lv_at hl 5 rfl) ?_
                    refine lv_iconst (v := nI 0) hE.x hE.b dX9_allAgree_62 rfl ?_
                    refine lv_iconst (v := nI 0) hE.x hE.b dX9_allAgree_63 rfl ?_
                    refine lv_iload_n hE.x hE.b dX9_allAgree_64 rfl (lv_at hl 6 rfl) ?_
                    refine z_qi hB (z_cV hE hB (c_X9_isAllowed l g o a F1_10 L A X C 0 (nI act) dd (nI 0) (nI 0) S hC (by omega) (by omega) (by omega)) q4_207 kX9_isAllowed ⟨rfl, rfl⟩ ⟨Nat.le_of_ble_eq_true rfl, Nat.le_of_ble_eq_true rfl⟩ 0 rfl rfl rfl hl.1 rfl (Nat.le_of_ble_eq_true rfl) dX9_allAgree_65 ⟨Nat.le_of_ble_eq_true rfl, Nat.le_of_ble_eq_true rfl⟩) (fun r_12 w_13 H locs hw hB => ?_)
                    obtain ⟨F1_14, hr9, hw9, hf_15⟩ := hw
                    have hr9 := hr9.symm
                    subst hr9
                    have hw9 := hw9.symm
                    subst hw9
                    have h16 := hf_15.trans h16
                    refine lv_icmp_ne (tgt := 75) hE.x hE.b dX9_allAgree_68 (by decide) (fun c_16 => ?_) (fun c_16 => ?_)
                    · refine lv_iconst (v := nI 0) hE.x hE.b dX9_allAgree_75 rfl ?_
                      refine lv_istore (lv' := [(4, .int (nI 0)), (6, .int (nI t)), (5, .int (nI act)), (0, .ref o), (1, .int (nI ac)), (2, .int dd), (3, .int (nI S))]) hE.x hE.b dX9_allAgree_76 hl (by decide) rfl (fun ls hl => ?_)
                      refine lv_iinc (v := (nI (t + 1))) (lv' := [(6, .int (nI (t + 1))), (4, .int (nI 0)), (5, .int (nI act)), (0, .ref o), (1, .int (nI ac)), (2, .int dd), (3, .int (nI S))]) hE.x hE.b dX9_allAgree_78 hl (k := 1) rfl (nI_add _ _) (by decide) rfl (fun ls hl => ?_)
                      refine lv_goto (tgt := 21) hE.x hE.b dX9_allAgree_81 (by decide) ?_
                      exact ih21 (t + 1) false F1_14 _ _ _ (by omega) (by omega) (by omega) h16 (ag_st hag ht1 c_6 (by omega) ⟨fun h => (by cases h), fun h => absurd (congrArg bI h) c_16⟩) hB (lv_sub hl [0, 2, 1, 3, 4, 5, 6] rfl)
                    · refine lv_iconst (v := nI 1) hE.x hE.b dX9_allAgree_71 rfl ?_
                      refine lv_goto (tgt := 76) hE.x hE.b dX9_allAgree_72 (by decide) ?_
                      refine lv_istore (lv' := [(4, .int (nI 1)), (6, .int (nI t)), (5, .int (nI act)), (0, .ref o), (1, .int (nI ac)), (2, .int dd), (3, .int (nI S))]) hE.x hE.b dX9_allAgree_76 hl (by decide) rfl (fun ls hl => ?_)
                      refine lv_iinc (v := (nI (t + 1))) (lv' := [(6, .int (nI (t + 1))), (4, .int (nI 1)), (5, .int (nI act)), (0, .ref o), (1, .int (nI ac)), (2, .int dd), (3, .int (nI S))]) hE.x hE.b dX9_allAgree_78 hl (k := 1) rfl (nI_add _ _) (by decide) rfl (fun ls hl => ?_)
                      refine lv_goto (tgt := 21) hE.x hE.b dX9_allAgree_81 (by decide) ?_
                      exact ih21 (t + 1) true F1_14 _ _ _ (by omega) (by omega) (by omega) h16 (ag_st hag ht1 c_6 (by omega) ⟨fun _ => bI_inj c_16, fun _ => rfl⟩) hB (lv_sub hl [0, 2, 1, 3, 4, 5, 6] rfl)
          exact k21 (7 - 1 + 1) 1 ag F1 _ _ _ (Nat.lt_succ_self _) (by omega) (by omega) h16 ⟨fun h => ⟨hag.mp h, fun _ t h1 h2 => absurd h1 (by omega)⟩, fun h => hag.mpr h.1⟩ hB hl
  exact k6 (6 - 0 + 1) 0 true F _ _ _ (Nat.lt_succ_self _) (by omega) h16 ⟨fun _ => agP_0, fun _ => rfl⟩ hB hl

set_option maxHeartbeats 4000000 in
set_option maxRecDepth 100000 in
theorem c_X9_settle (l : Launch) (g : zG) (o : Nat) (a : Nat → Nat) (F : Nat → Int32) (L : Nat → Int64) (A : Nat → Nat → Int32) (X : va_W) (T : Nat) (C : Nat) (V : Nat) (U : Nat) (ac : Int32) (dd : Int32) (hn : nOK (A 0) T C V U) : Met l yX9_settle (Cond.code yX9_settle cX9_settle 6 (some .int) :: TBL) { frames := 7, cells := 0, slots := 0, locals := 180 } (zPc [.ref o, .int ac, .int dd] g (mW g o a F L A ++ X)) (zQi g (fun r ws => ∃ (F1 : Nat → Int32), r = (settleR (A 0) T C ac dd) ∧ ws = mW g o a F1 L (chk (pIn 0 63 ac && pIn 0 59 dd) A) ++ X ∧ F1 16 = F 16)) 0 0 (zA (gz g)) := by
  refine z_start (by decide +kernel) rfl (Nat.le_of_ble_eq_true rfl) ?_
  intro p e s m args below meth c ls hE hr hnm hB hl
  have hl : lv_has ls 6 [(0, .ref o), (1, .int ac), (2, .int dd)] := hl
  revert hB
  generalize s.heap = H
  generalize ([] : List Loc) = locs
  intro hB
  have hT := hn.T
  have hT6 := hn.T6
  have hC := hn.C
  have hC8 := hn.C8
  have hV := hn.V
  have hV8 := hn.V8
  have hU := hn.U
  have hU8 := hn.U8
  have h16 : F 16 = F 16 := rfl
  have hpC := pow_C hC8
  refine lv_iload_n hE.x hE.b dX9_settle_0 rfl (lv_at hl 1 rfl) ?_
  refine z_qi hB (z_cS hE hB (c_X9_areActs l g ac (mW g o a F L A ++ X)) q4_219 kX9_areActs ⟨rfl, rfl⟩ ⟨Nat.le_of_ble_eq_true rfl, Nat.le_of_ble_eq_true rfl⟩ rfl hl.1 rfl (Nat.le_of_ble_eq_true rfl) dX9_settle_1 ⟨Nat.le_of_ble_eq_true rfl, Nat.le_of_ble_eq_true rfl⟩) (fun r_1 w_2 H locs hw hB => ?_)
  obtain ⟨hr9, hw9⟩ := hw
  have hr9 := hr9.symm
  subst hr9
  have hw9 := hw9.symm
  subst hw9
  refine z_bf (b := (pIn 0 63 ac)) (tgt := 14) hE dX9_settle_4 (by decide) (fun c_3 => ?_) (fun c_3 => ?_)
  · refine lv_aload_n hE.x hE.b dX9_settle_14 rfl (lv_at hl 0 rfl) ?_
    refine lv_bipush (v := (-2)) hE.x hE.b dX9_settle_15 rfl ?_
    refine z_qi hB (z_cV hE hB (c_X9_bad l g o a F L A X (-2)) q4_91 kX9_bad ⟨rfl, rfl⟩ ⟨Nat.le_of_ble_eq_true rfl, Nat.le_of_ble_eq_true rfl⟩ 0 rfl rfl rfl hl.1 rfl (Nat.le_of_ble_eq_true rfl) dX9_settle_17 ⟨Nat.le_of_ble_eq_true rfl, Nat.le_of_ble_eq_true rfl⟩) (fun r_4 w_5 H locs hw hB => ?_)
    obtain ⟨hr9, hw9⟩ := hw
    have hr9 := hr9.symm
    subst hr9
    have hw9 := hw9.symm
    subst hw9
    exact z_iret (v := (-2)) (ws := mW g o a F L (bump 0 A) ++ X) hE hB hr (⟨F, by unfold settleR; simp only [c_3, Bool.and_false, Bool.false_and, Bool.false_eq_true, if_false], by unfold chk; simp only [c_3, Bool.and_false, Bool.false_and, Bool.false_eq_true, if_false], rfl⟩) dX9_settle_20
  · refine lv_iload_n hE.x hE.b dX9_settle_7 rfl (lv_at hl 2 rfl) ?_
    refine z_qi hB (z_cS hE hB (c_X9_isDay l g dd (mW g o a F L A ++ X)) q4_170 kX9_isDay ⟨rfl, rfl⟩ ⟨Nat.le_of_ble_eq_true rfl, Nat.le_of_ble_eq_true rfl⟩ rfl hl.1 rfl (Nat.le_of_ble_eq_true rfl) dX9_settle_8 ⟨Nat.le_of_ble_eq_true rfl, Nat.le_of_ble_eq_true rfl⟩) (fun r_6 w_7 H locs hw hB => ?_)
    obtain ⟨hr9, hw9⟩ := hw
    have hr9 := hr9.symm
    subst hr9
    have hw9 := hw9.symm
    subst hw9
    refine z_bt (b := (pIn 0 59 dd)) (tgt := 21) hE dX9_settle_11 (by decide) (fun c_8 => ?_) (fun c_8 => ?_)
    · obtain ⟨an, han, rfl⟩ := pIn_nI (hi := 63) c_3 (by omega)
      refine lv_iconst (v := nI 1) hE.x hE.b dX9_settle_21 rfl ?_
      refine lv_aload_n hE.x hE.b dX9_settle_22 rfl (lv_at hl 0 rfl) ?_
      refine z_qi hB (z_cV hE hB (c_X9_clauses l g o a F L A X C hC) q4_123 kX9_clauses ⟨rfl, rfl⟩ ⟨Nat.le_of_ble_eq_true rfl, Nat.le_of_ble_eq_true rfl⟩ 0 rfl rfl rfl hl.1 rfl (Nat.le_of_ble_eq_true rfl) dX9_settle_23 ⟨Nat.le_of_ble_eq_true rfl, Nat.le_of_ble_eq_true rfl⟩) (fun r_9 w_10 H locs hw hB => ?_)
      obtain ⟨hr9, hw9⟩ := hw
      have hr9 := hr9.symm
      subst hr9
      have hw9 := hw9.symm
      subst hw9
      refine lv_ishl hE.x hE.b dX9_settle_26 ?_
      refine z_top (y := (nI (2 ^ C))) (shl1_9 C (by omega)) ?_
      refine lv_iconst (v := nI 1) hE.x hE.b dX9_settle_27 rfl ?_
      refine z_isubN hE (by omega) dX9_settle_28 ?_
      refine lv_istore_n (lv' := [(3, .int (nI ((2 ^ C) - 1))), (0, .ref o), (1, .int (nI an)), (2, .int dd)]) hE.x hE.b dX9_settle_29 rfl hl (by decide) rfl (fun ls hl => ?_)
      refine lv_iconst (v := nI 0) hE.x hE.b dX9_settle_30 rfl ?_
      refine lv_istore (lv' := [(4, .int (nI 0)), (3, .int (nI ((2 ^ C) - 1))), (0, .ref o), (1, .int (nI an)), (2, .int dd)]) hE.x hE.b dX9_settle_31 hl (by decide) rfl (fun ls hl => ?_)
      have k33 : ∀ (fu : Nat) (b : Nat) (k : Nat) (F1 : Nat → Int32) (H : Heap) (locs : List Loc) (ls : Array Slot), 2 ^ C - k < fu → (k ≤ 2 ^ C) → (F1 16 = F 16) → (b = stl (fun S => agB (acAl (A 0) C dd S) T an) (2 ^ C - 1) k) → zB g s (mW g o a F1 L A ++ X) H locs → lv_has ls 6 [(4, .int (nI k)), (3, .int (nI b)), (0, .ref o), (1, .int (nI an)), (2, .int dd)] → W p l e { frames := 7, cells := 0, slots := 0, locals := 180 } s m args below meth c H locs 0 0 (MQ below (zQi g (fun r ws => ∃ (F1 : Nat → Int32), r = (settleR (A 0) T C (nI an) dd) ∧ ws = mW g o a F1 L (chk (pIn 0 63 (nI an) && pIn 0 59 dd) A) ++ X ∧ F1 16 = F 16)) args s 0 0 (zA (gz g))) (F0 m 33 ls []) := by
        intro fu
        induction fu with
        | zero => intro b k F1 H locs ls hfu hk h16 hb hB hl; exact absurd hfu (Nat.not_lt_zero _)
        | succ fu ih33 =>
          intro b k F1 H locs ls hfu hk h16 hb hB hl
          refine lv_iload hE.x hE.b dX9_settle_33 (lv_at hl 0 rfl) ?_
          refine lv_iconst (v := nI 1) hE.x hE.b dX9_settle_35 rfl ?_
          refine lv_aload_n hE.x hE.b dX9_settle_36 rfl (lv_at hl 2 rfl) ?_
          refine z_qi hB (z_cV hE hB (c_X9_clauses l g o a F1 L A X C hC) q4_123 kX9_clauses ⟨rfl, rfl⟩ ⟨Nat.le_of_ble_eq_true rfl, Nat.le_of_ble_eq_true rfl⟩ 0 rfl rfl rfl hl.1 rfl (Nat.le_of_ble_eq_true rfl) dX9_settle_37 ⟨Nat.le_of_ble_eq_true rfl, Nat.le_of_ble_eq_true rfl⟩) (fun r_11 w_12 H locs hw hB => ?_)
          obtain ⟨hr9, hw9⟩ := hw
          have hr9 := hr9.symm
          subst hr9
          have hw9 := hw9.symm
          subst hw9
          refine lv_ishl hE.x hE.b dX9_settle_40 ?_
          refine z_top (y := (nI (2 ^ C))) (shl1_9 C (by omega)) ?_
          refine z_ge (tgt := 92) (X := ((k : Nat) : Int)) (Y := (((2 ^ C) : Nat) : Int)) hE dX9_settle_41 (by decide) (nI_toInt (n := k) (by omega)) (nI_toInt (n := (2 ^ C)) (by omega)) (fun c_13 => ?_) (fun c_13 => ?_)
          · refine lv_iload_n hE.x hE.b dX9_settle_92 rfl (lv_at hl 1 rfl) ?_
            exact z_iret (v := (nI b)) (ws := mW g o a F1 L A ++ X) hE hB hr (⟨F1, by unfold settleR; simp only [c_3, c_8, Bool.and_true, if_true, rcl (show an < 2 ^ 31 by omega)]; rw [show k = 2 ^ C by omega] at hb; rw [hb], by unfold chk; simp only [c_3, c_8, Bool.and_true, if_true], h16⟩) dX9_settle_93
          · have k61 : ∀ (fw : Bool) (H : Heap) (locs : List Loc) (ls : Array Slot), (fw = decide (pop k < pop b)) → zB g s (mW g o a F1 L A ++ X) H locs → lv_has ls 6 [(4, .int (nI k)), (3, .int (nI b)), (0, .ref o), (1, .int (nI an)), (2, .int dd)] → W p l e { frames := 7, cells := 0, slots := 0, locals := 180 } s m args below meth c H locs 0 0 (MQ below (zQi g (fun r ws => ∃ (F1 : Nat → Int32), r = (settleR (A 0) T C (nI an) dd) ∧ ws = mW g o a F1 L (chk (pIn 0 63 (nI an) && pIn 0 59 dd) A) ++ X ∧ F1 16 = F 16)) args s 0 0 (zA (gz g))) (F0 m 61 ls [.int (bI fw)]) := by
              intro fw H locs ls hfw hB hl
              refine lv_istore (lv' := [(5, .int (bI fw)), (4, .int (nI k)), (3, .int (nI b)), (0, .ref o), (1, .int (nI an)), (2, .int dd)]) hE.x hE.b dX9_settle_61 hl (by decide) rfl (fun ls hl => ?_)
              refine lv_iload hE.x hE.b dX9_settle_63 (lv_at hl 0 rfl) ?_
              refine z_bf (b := fw) (tgt := 84) hE dX9_settle_65 (by decide) (fun c_14 => ?_) (fun c_14 => ?_)
              · refine lv_iload_n hE.x hE.b dX9_settle_84 rfl (lv_at hl 2 rfl) ?_
                refine lv_istore_n (lv' := [(3, .int (nI b)), (5, .int (bI fw)), (4, .int (nI k)), (0, .ref o), (1, .int (nI an)), (2, .int dd)]) hE.x hE.b dX9_settle_85 rfl hl (by decide) rfl (fun ls hl => ?_)
                refine lv_iinc (v := (nI (k + 1))) (lv' := [(4, .int (nI (k + 1))), (3, .int (nI b)), (5, .int (bI fw)), (0, .ref o), (1, .int (nI an)), (2, .int dd)]) hE.x hE.b dX9_settle_86 hl (k := 2) rfl (nI_add _ _) (by decide) rfl (fun ls hl => ?_)
                refine lv_goto (tgt := 33) hE.x hE.b dX9_settle_89 (by decide) ?_
                exact ih33 b (k + 1) F1 _ _ _ (by omega) (by omega) h16 (stl_no hb (Or.inl (of_decide_eq_false (hfw.symm.trans c_14)))) hB (lv_sub hl [0, 1, 3, 4, 5] rfl)
              · refine lv_aload_n hE.x hE.b dX9_settle_68 rfl (lv_at hl 3 rfl) ?_
                refine lv_iload_n hE.x hE.b dX9_settle_69 rfl (lv_at hl 4 rfl) ?_
                refine lv_iload_n hE.x hE.b dX9_settle_70 rfl (lv_at hl 5 rfl) ?_
                refine lv_iload hE.x hE.b dX9_settle_71 (lv_at hl 1 rfl) ?_
                refine z_qi hB (z_cV hE hB (c_X9_allAgree l g o a F1 L A X C T an dd k hT (by omega) hC (by omega) (by omega) (by omega)) q4_226 kX9_allAgree ⟨rfl, rfl⟩ ⟨Nat.le_of_ble_eq_true rfl, Nat.le_of_ble_eq_true rfl⟩ 0 rfl rfl rfl hl.1 rfl (Nat.le_of_ble_eq_true rfl) dX9_settle_73 ⟨Nat.le_of_ble_eq_true rfl, Nat.le_of_ble_eq_true rfl⟩) (fun r_15 w_16 H locs hw hB => ?_)
                obtain ⟨F1_17, hr9, hw9, hf_18⟩ := hw
                have hr9 := hr9.symm
                subst hr9
                have hw9 := hw9.symm
                subst hw9
                have h16 := hf_18.trans h16
                refine z_bf (b := (agB (acAl (A 0) C dd k) T an)) (tgt := 84) hE dX9_settle_76 (by decide) (fun c_19 => ?_) (fun c_19 => ?_)
                · refine lv_iload_n hE.x hE.b dX9_settle_84 rfl (lv_at hl 2 rfl) ?_
                  refine lv_istore_n (lv' := [(3, .int (nI b)), (5, .int (bI fw)), (4, .int (nI k)), (0, .ref o), (1, .int (nI an)), (2, .int dd)]) hE.x hE.b dX9_settle_85 rfl hl (by decide) rfl (fun ls hl => ?_)
                  refine lv_iinc (v := (nI (k + 1))) (lv' := [(4, .int (nI (k + 1))), (3, .int (nI b)), (5, .int (bI fw)), (0, .ref o), (1, .int (nI an)), (2, .int dd)]) hE.x hE.b dX9_settle_86 hl (k := 2) rfl (nI_add _ _) (by decide) rfl (fun ls hl => ?_)
                  refine lv_goto (tgt := 33) hE.x hE.b dX9_settle_89 (by decide) ?_
                  exact ih33 b (k + 1) F1_17 _ _ _ (by omega) (by omega) h16 (stl_no hb (Or.inr c_19)) hB (lv_sub hl [0, 1, 3, 4, 5] rfl)
                · refine lv_iload hE.x hE.b dX9_settle_79 (lv_at hl 1 rfl) ?_
                  refine lv_goto (tgt := 85) hE.x hE.b dX9_settle_81 (by decide) ?_
                  refine lv_istore_n (lv' := [(3, .int (nI k)), (5, .int (bI fw)), (4, .int (nI k)), (0, .ref o), (1, .int (nI an)), (2, .int dd)]) hE.x hE.b dX9_settle_85 rfl hl (by decide) rfl (fun ls hl => ?_)
                  refine lv_iinc (v := (nI (k + 1))) (lv' := [(4, .int (nI (k + 1))), (3, .int (nI k)), (5, .int (bI fw)), (0, .ref o), (1, .int (nI an)), (2, .int dd)]) hE.x hE.b dX9_settle_86 hl (k := 2) rfl (nI_add _ _) (by decide) rfl (fun ls hl => ?_)
                  refine lv_goto (tgt := 33) hE.x hE.b dX9_settle_89 (by decide) ?_
                  exact ih33 k (k + 1) F1_17 _ _ _ (by omega) (by omega) h16 (stl_yes hb (of_decide_eq_true (hfw.symm.trans c_14)) c_19) hB (lv_sub hl [0, 1, 3, 4, 5] rfl)
            have hbl : b ≤ 2 ^ C - 1 := hb ▸ stl_lt k (by omega)
            have hpk := pop_8 k
            have hpb := pop_8 b
            refine lv_iload hE.x hE.b dX9_settle_44 (lv_at hl 0 rfl) ?_
            refine z_qi hB (z_cS hE hB (c_X9_bits l g k (mW g o a F1 L A ++ X) (by omega)) q4_223 kX9_bits ⟨rfl, rfl⟩ ⟨Nat.le_of_ble_eq_true rfl, Nat.le_of_ble_eq_true rfl⟩ rfl hl.1 rfl (Nat.le_of_ble_eq_true rfl) dX9_settle_46 ⟨Nat.le_of_ble_eq_true rfl, Nat.le_of_ble_eq_true rfl⟩) (fun r_20 w_21 H locs hw hB => ?_)
            obtain ⟨hr9, hw9⟩ := hw
            have hr9 := hr9.symm
            subst hr9
            have hw9 := hw9.symm
            subst hw9
            refine lv_iload_n hE.x hE.b dX9_settle_49 rfl (lv_at hl 1 rfl) ?_
            refine z_qi hB (z_cS hE hB (c_X9_bits l g b (mW g o a F1 L A ++ X) (by omega)) q4_223 kX9_bits ⟨rfl, rfl⟩ ⟨Nat.le_of_ble_eq_true rfl, Nat.le_of_ble_eq_true rfl⟩ rfl hl.1 rfl (Nat.le_of_ble_eq_true rfl) dX9_settle_50 ⟨Nat.le_of_ble_eq_true rfl, Nat.le_of_ble_eq_true rfl⟩) (fun r_22 w_23 H locs hw hB => ?_)
            obtain ⟨hr9, hw9⟩ := hw
            have hr9 := hr9.symm
            subst hr9
            have hw9 := hw9.symm
            subst hw9
            refine z_ge (tgt := 60) (X := (((pop k) : Nat) : Int)) (Y := (((pop b) : Nat) : Int)) hE dX9_settle_53 (by decide) (nI_toInt (n := (pop k)) (by omega)) (nI_toInt (n := (pop b)) (by omega)) (fun c_24 => ?_) (fun c_24 => ?_)
            · refine lv_iconst (v := nI 0) hE.x hE.b dX9_settle_60 rfl ?_
              exact k61 false _ _ _ (decide_eq_false (by omega)).symm hB hl
            · refine lv_iconst (v := nI 1) hE.x hE.b dX9_settle_56 rfl ?_
              refine lv_goto (tgt := 61) hE.x hE.b dX9_settle_57 (by decide) ?_
              exact k61 true _ _ _ (decide_eq_true (by omega)).symm hB hl
      exact k33 (2 ^ C - 0 + 1) ((2 ^ C) - 1) 0 F _ _ _ (Nat.lt_succ_self _) (by omega) h16 rfl hB hl
    · refine lv_aload_n hE.x hE.b dX9_settle_14 rfl (lv_at hl 0 rfl) ?_
      refine lv_bipush (v := (-2)) hE.x hE.b dX9_settle_15 rfl ?_
      refine z_qi hB (z_cV hE hB (c_X9_bad l g o a F L A X (-2)) q4_91 kX9_bad ⟨rfl, rfl⟩ ⟨Nat.le_of_ble_eq_true rfl, Nat.le_of_ble_eq_true rfl⟩ 0 rfl rfl rfl hl.1 rfl (Nat.le_of_ble_eq_true rfl) dX9_settle_17 ⟨Nat.le_of_ble_eq_true rfl, Nat.le_of_ble_eq_true rfl⟩) (fun r_25 w_26 H locs hw hB => ?_)
      obtain ⟨hr9, hw9⟩ := hw
      have hr9 := hr9.symm
      subst hr9
      have hw9 := hw9.symm
      subst hw9
      exact z_iret (v := (-2)) (ws := mW g o a F L (bump 0 A) ++ X) hE hB hr (⟨F, by unfold settleR; simp only [c_3, c_8, Bool.and_false, Bool.false_and, Bool.false_eq_true, if_false], by unfold chk; simp only [c_3, c_8, Bool.and_false, Bool.false_and, Bool.false_eq_true, if_false], rfl⟩) dX9_settle_20

set_option maxHeartbeats 4000000 in
set_option maxRecDepth 100000 in
theorem c_X9_reads (l : Launch) (g : zG) (o : Nat) (a : Nat → Nat) (F : Nat → Int32) (L : Nat → Int64) (A : Nat → Nat → Int32) (X : va_W) (T : Nat) (C : Nat) (V : Nat) (U : Nat) (tw : Int32) (ac : Int32) (dd : Int32) (dy : Int32) (sh : Int32) (hn : nOK (A 0) T C V U) : Met l yX9_reads (Cond.code yX9_reads cX9_reads 9 (some .int) :: TBL) { frames := 4, cells := 0, slots := 0, locals := 101 } (zPc [.ref o, .int tw, .int ac, .int dd, .int dy, .int sh] g (mW g o a F L A ++ X)) (zQi g (fun r ws => ∃ (F1 : Nat → Int32), r = (readsR (A 0) T C tw ac dd dy sh) ∧ ws = mW g o a F1 L (chk (askOK T tw ac dd dy sh) A) ++ X ∧ F1 16 = F 16)) 0 0 (zA (gz g)) := by
  refine z_start (by decide +kernel) rfl (Nat.le_of_ble_eq_true rfl) ?_
  intro p e s m args below meth c ls hE hr hnm hB hl
  have hl : lv_has ls 9 [(0, .ref o), (1, .int tw), (2, .int ac), (3, .int dd), (4, .int dy), (5, .int sh)] := hl
  revert hB
  generalize s.heap = H
  generalize ([] : List Loc) = locs
  intro hB
  have hT := hn.T
  have hT6 := hn.T6
  have hC := hn.C
  have hC8 := hn.C8
  have hV := hn.V
  have hV8 := hn.V8
  have hU := hn.U
  have hU8 := hn.U8
  refine lv_aload_n hE.x hE.b dX9_reads_0 rfl (lv_at hl 0 rfl) ?_
  refine lv_iload_n hE.x hE.b dX9_reads_1 rfl (lv_at hl 1 rfl) ?_
  refine z_qi hB (z_cV hE hB (c_X9_isTown l g o a F L A X T tw hT (by omega)) q4_106 kX9_isTown ⟨rfl, rfl⟩ ⟨Nat.le_of_ble_eq_true rfl, Nat.le_of_ble_eq_true rfl⟩ 0 rfl rfl rfl hl.1 rfl (Nat.le_of_ble_eq_true rfl) dX9_reads_2 ⟨Nat.le_of_ble_eq_true rfl, Nat.le_of_ble_eq_true rfl⟩) (fun r_1 w_2 H locs hw hB => ?_)
  obtain ⟨hr9, hw9⟩ := hw
  have hr9 := hr9.symm
  subst hr9
  have hw9 := hw9.symm
  subst hw9
  refine z_bf (b := (pTown T tw)) (tgt := 32) hE dX9_reads_5 (by decide) (fun c_3 => ?_) (fun c_3 => ?_)
  · refine lv_aload_n hE.x hE.b dX9_reads_32 rfl (lv_at hl 0 rfl) ?_
    refine lv_bipush (v := (-2)) hE.x hE.b dX9_reads_33 rfl ?_
    refine z_qi hB (z_cV hE hB (c_X9_bad l g o a F L A X (-2)) q4_91 kX9_bad ⟨rfl, rfl⟩ ⟨Nat.le_of_ble_eq_true rfl, Nat.le_of_ble_eq_true rfl⟩ 0 rfl rfl rfl hl.1 rfl (Nat.le_of_ble_eq_true rfl) dX9_reads_35 ⟨Nat.le_of_ble_eq_true rfl, Nat.le_of_ble_eq_true rfl⟩) (fun r_4 w_5 H locs hw hB => ?_)
    obtain ⟨hr9, hw9⟩ := hw
    have hr9 := hr9.symm
    subst hr9
    have hw9 := hw9.symm
    subst hw9
    exact z_iret (v := (-2)) (ws := mW g o a F L (bump 0 A) ++ X) hE hB hr (⟨F, by unfold readsR askOK; simp only [c_3, Bool.and_false, Bool.false_and, Bool.false_eq_true, if_false], by unfold chk askOK; simp only [c_3, Bool.and_false, Bool.false_and, Bool.false_eq_true, if_false], rfl⟩) dX9_reads_38
  · refine lv_iload_n hE.x hE.b dX9_reads_8 rfl (lv_at hl 2 rfl) ?_
    refine z_qi hB (z_cS hE hB (c_X9_isAct l g ac (mW g o a F L A ++ X)) q4_119 kX9_isAct ⟨rfl, rfl⟩ ⟨Nat.le_of_ble_eq_true rfl, Nat.le_of_ble_eq_true rfl⟩ rfl hl.1 rfl (Nat.le_of_ble_eq_true rfl) dX9_reads_9 ⟨Nat.le_of_ble_eq_true rfl, Nat.le_of_ble_eq_true rfl⟩) (fun r_6 w_7 H locs hw hB => ?_)
    obtain ⟨hr9, hw9⟩ := hw
    have hr9 := hr9.symm
    subst hr9
    have hw9 := hw9.symm
    subst hw9
    refine z_bf (b := (pIn 0 5 ac)) (tgt := 32) hE dX9_reads_12 (by decide) (fun c_8 => ?_) (fun c_8 => ?_)
    · refine lv_aload_n hE.x hE.b dX9_reads_32 rfl (lv_at hl 0 rfl) ?_
      refine lv_bipush (v := (-2)) hE.x hE.b dX9_reads_33 rfl ?_
      refine z_qi hB (z_cV hE hB (c_X9_bad l g o a F L A X (-2)) q4_91 kX9_bad ⟨rfl, rfl⟩ ⟨Nat.le_of_ble_eq_true rfl, Nat.le_of_ble_eq_true rfl⟩ 0 rfl rfl rfl hl.1 rfl (Nat.le_of_ble_eq_true rfl) dX9_reads_35 ⟨Nat.le_of_ble_eq_true rfl, Nat.le_of_ble_eq_true rfl⟩) (fun r_9 w_10 H locs hw hB => ?_)
      obtain ⟨hr9, hw9⟩ := hw
      have hr9 := hr9.symm
      subst hr9
      have hw9 := hw9.symm
      subst hw9
      exact z_iret (v := (-2)) (ws := mW g o a F L (bump 0 A) ++ X) hE hB hr (⟨F, by unfold readsR askOK; simp only [c_3, c_8, Bool.and_false, Bool.false_and, Bool.false_eq_true, if_false], by unfold chk askOK; simp only [c_3, c_8, Bool.and_false, Bool.false_and, Bool.false_eq_true, if_false], rfl⟩) dX9_reads_38
    · refine lv_iload_n hE.x hE.b dX9_reads_15 rfl (lv_at hl 3 rfl) ?_
      refine z_qi hB (z_cS hE hB (c_X9_isDay l g dd (mW g o a F L A ++ X)) q4_170 kX9_isDay ⟨rfl, rfl⟩ ⟨Nat.le_of_ble_eq_true rfl, Nat.le_of_ble_eq_true rfl⟩ rfl hl.1 rfl (Nat.le_of_ble_eq_true rfl) dX9_reads_16 ⟨Nat.le_of_ble_eq_true rfl, Nat.le_of_ble_eq_true rfl⟩) (fun r_11 w_12 H locs hw hB => ?_)
      obtain ⟨hr9, hw9⟩ := hw
      have hr9 := hr9.symm
      subst hr9
      have hw9 := hw9.symm
      subst hw9
      refine z_bf (b := (pIn 0 59 dd)) (tgt := 32) hE dX9_reads_19 (by decide) (fun c_13 => ?_) (fun c_13 => ?_)
      · refine lv_aload_n hE.x hE.b dX9_reads_32 rfl (lv_at hl 0 rfl) ?_
        refine lv_bipush (v := (-2)) hE.x hE.b dX9_reads_33 rfl ?_
        refine z_qi hB (z_cV hE hB (c_X9_bad l g o a F L A X (-2)) q4_91 kX9_bad ⟨rfl, rfl⟩ ⟨Nat.le_of_ble_eq_true rfl, Nat.le_of_ble_eq_true rfl⟩ 0 rfl rfl rfl hl.1 rfl (Nat.le_of_ble_eq_true rfl) dX9_reads_35 ⟨Nat.le_of_ble_eq_true rfl, Nat.le_of_ble_eq_true rfl⟩) (fun r_14 w_15 H locs hw hB => ?_)
        obtain ⟨hr9, hw9⟩ := hw
        have hr9 := hr9.symm
        subst hr9
        have hw9 := hw9.symm
        subst hw9
        exact z_iret (v := (-2)) (ws := mW g o a F L (bump 0 A) ++ X) hE hB hr (⟨F, by unfold readsR askOK; simp only [c_3, c_8, c_13, Bool.and_false, Bool.false_and, Bool.false_eq_true, if_false], by unfold chk askOK; simp only [c_3, c_8, c_13, Bool.and_false, Bool.false_and, Bool.false_eq_true, if_false], rfl⟩) dX9_reads_38
      · refine lv_iload hE.x hE.b dX9_reads_22 (lv_at hl 4 rfl) ?_
        refine lv_iload hE.x hE.b dX9_reads_24 (lv_at hl 5 rfl) ?_
        refine z_qi hB (z_cS hE hB (c_X9_isAsker l g dy sh (mW g o a F L A ++ X)) q4_174 kX9_isAsker ⟨rfl, rfl⟩ ⟨Nat.le_of_ble_eq_true rfl, Nat.le_of_ble_eq_true rfl⟩ rfl hl.1 rfl (Nat.le_of_ble_eq_true rfl) dX9_reads_26 ⟨Nat.le_of_ble_eq_true rfl, Nat.le_of_ble_eq_true rfl⟩) (fun r_16 w_17 H locs hw hB => ?_)
        obtain ⟨hr9, hw9⟩ := hw
        have hr9 := hr9.symm
        subst hr9
        have hw9 := hw9.symm
        subst hw9
        refine z_bt (b := (pIn 0 1 dy && pIn 0 1 sh)) (tgt := 39) hE dX9_reads_29 (by decide) (fun c_18 => ?_) (fun c_18 => ?_)
        · obtain ⟨t, ht, rfl⟩ := pTown_nI c_3 (by omega)
          refine lv_aload_n hE.x hE.b dX9_reads_39 rfl (lv_at hl 0 rfl) ?_
          refine lv_iload_n hE.x hE.b dX9_reads_40 rfl (lv_at hl 1 rfl) ?_
          refine lv_iload_n hE.x hE.b dX9_reads_41 rfl (lv_at hl 2 rfl) ?_
          refine lv_iload_n hE.x hE.b dX9_reads_42 rfl (lv_at hl 3 rfl) ?_
          refine lv_iload hE.x hE.b dX9_reads_43 (lv_at hl 4 rfl) ?_
          refine lv_iload hE.x hE.b dX9_reads_45 (lv_at hl 5 rfl) ?_
          refine lv_iconst (v := nI 0) hE.x hE.b dX9_reads_47 rfl ?_
          refine z_qv hB (z_cV hE hB (c_X9_hear l g o a F L A X C (nI t) ac dd dy sh 0 hC (by omega) (by omega)) q4_181 kX9_hear ⟨rfl, rfl⟩ ⟨Nat.le_of_ble_eq_true rfl, Nat.le_of_ble_eq_true rfl⟩ 0 rfl rfl rfl hl.1 rfl (Nat.le_of_ble_eq_true rfl) dX9_reads_48 ⟨Nat.le_of_ble_eq_true rfl, Nat.le_of_ble_eq_true rfl⟩) (fun w_20 H locs hw hB => ?_)
          obtain ⟨F1_21, hw9, hf_22, hf_23, hf_24, hf_25, hf_26, hf_27, hf_28⟩ := hw
          have hw9 := hw9.symm
          subst hw9
          refine lv_iconst (v := nI 0) hE.x hE.b dX9_reads_51 rfl ?_
          refine lv_istore (lv' := [(6, .int (nI 0)), (0, .ref o), (1, .int (nI t)), (2, .int ac), (3, .int dd), (4, .int dy), (5, .int sh)]) hE.x hE.b dX9_reads_52 hl (by decide) rfl (fun ls hl => ?_)
          refine lv_iconst (v := nI 0) hE.x hE.b dX9_reads_54 rfl ?_
          refine lv_istore (lv' := [(7, .int (nI 0)), (6, .int (nI 0)), (0, .ref o), (1, .int (nI t)), (2, .int ac), (3, .int dd), (4, .int dy), (5, .int sh)]) hE.x hE.b dX9_reads_55 hl (by decide) rfl (fun ls hl => ?_)
          have k57 : ∀ (fu : Nat) (b : Nat) (r : Nat) (H : Heap) (locs : List Loc) (ls : Array Slot), 4 - r < fu → (r ≤ 4) → (b = rdB (fun r => alO (A 0) (decP (A 0) C (nI r) (hP (A 0) 0 (nI t) ac dd dy sh))) r) → zB g s (mW g o a F1_21 L A ++ X) H locs → lv_has ls 9 [(7, .int (nI r)), (6, .int (nI b)), (0, .ref o), (1, .int (nI t)), (2, .int ac), (3, .int dd), (4, .int dy), (5, .int sh)] → W p l e { frames := 4, cells := 0, slots := 0, locals := 101 } s m args below meth c H locs 0 0 (MQ below (zQi g (fun r ws => ∃ (F1 : Nat → Int32), r = (readsR (A 0) T C (nI t) ac dd dy sh) ∧ ws = mW g o a F1 L (chk (askOK T (nI t) ac dd dy sh) A) ++ X ∧ F1 16 = F 16)) args s 0 0 (zA (gz g))) (F0 m 57 ls []) := by
            intro fu
            induction fu with
            | zero => intro b r H locs ls hfu hr4 hb hB hl; exact absurd hfu (Nat.not_lt_zero _)
            | succ fu ih57 =>
              intro b r H locs ls hfu hr4 hb hB hl
              refine lv_iload hE.x hE.b dX9_reads_57 (lv_at hl 0 rfl) ?_
              refine lv_iconst (v := nI 4) hE.x hE.b dX9_reads_59 rfl ?_
              refine z_ge (tgt := 109) (X := ((r : Nat) : Int)) (Y := (4 : Int)) hE dX9_reads_60 (by decide) (nI_toInt (n := r) (by omega)) rfl (fun c_29 => ?_) (fun c_29 => ?_)
              · refine lv_iload hE.x hE.b dX9_reads_109 (lv_at hl 1 rfl) ?_
                exact z_iret (v := (nI b)) (ws := mW g o a F1_21 L A ++ X) hE hB hr (⟨F1_21, by unfold readsR askOK; simp only [c_3, c_8, c_13, c_18, Bool.and_true, if_true]; rw [show r = 4 by omega] at hb; rw [hb], by unfold chk askOK; simp only [c_3, c_8, c_13, c_18, Bool.and_true, if_true], hf_22⟩) dX9_reads_111
              · refine lv_aload_n hE.x hE.b dX9_reads_63 rfl (lv_at hl 2 rfl) ?_
                refine lv_iload hE.x hE.b dX9_reads_64 (lv_at hl 0 rfl) ?_
                refine z_qi hB (z_cV hE hB (c_X9_decides l g o a F1_21 L A X (nI r)) q4_189 kX9_decides ⟨rfl, rfl⟩ ⟨Nat.le_of_ble_eq_true rfl, Nat.le_of_ble_eq_true rfl⟩ 0 rfl rfl rfl hl.1 rfl (Nat.le_of_ble_eq_true rfl) dX9_reads_66 ⟨Nat.le_of_ble_eq_true rfl, Nat.le_of_ble_eq_true rfl⟩) (fun r_30 w_31 H locs hw hB => ?_)
                obtain ⟨hr9, hw9⟩ := hw
                have hr9 := hr9.symm
                subst hr9
                have hw9 := hw9.symm
                subst hw9
                refine z_top (y := (oI (decP (A 0) C (nI r) (hP (A 0) 0 (nI t) ac dd dy sh)))) (dcF_eq hf_23 hf_24 hf_25 hf_26 hf_27 hf_28 (Nat.lt_of_le_of_lt (cn_le _ _) (by omega)) (Nat.lt_of_le_of_lt (cn_le _ _) (by omega)) (hF_32 hC8)) ?_
                refine lv_istore (lv' := [(8, .int (oI (decP (A 0) C (nI r) (hP (A 0) 0 (nI t) ac dd dy sh)))), (7, .int (nI r)), (6, .int (nI b)), (0, .ref o), (1, .int (nI t)), (2, .int ac), (3, .int dd), (4, .int dy), (5, .int sh)]) hE.x hE.b dX9_reads_69 hl (by decide) rfl (fun ls hl => ?_)
                refine lv_iload hE.x hE.b dX9_reads_71 (lv_at hl 2 rfl) ?_
                refine lv_iload hE.x hE.b dX9_reads_73 (lv_at hl 0 rfl) ?_
                refine lv_iconst (v := (-1)) hE.x hE.b dX9_reads_75 rfl ?_
                refine lv_icmp_eq (tgt := 92) hE.x hE.b dX9_reads_76 (by decide) (fun c_32 => ?_) (fun c_32 => ?_)
                · refine lv_iconst (v := nI 1) hE.x hE.b dX9_reads_92 rfl ?_
                  refine lv_iload hE.x hE.b dX9_reads_93 (lv_at hl 1 rfl) ?_
                  refine lv_ishl hE.x hE.b dX9_reads_95 ?_
                  refine z_top (y := (nI (2 ^ r))) (shl_8 r (by omega)) ?_
                  refine lv_goto (tgt := 100) hE.x hE.b dX9_reads_96 (by decide) ?_
                  refine lv_ior hE.x hE.b dX9_reads_100 ?_
                  refine z_top (y := (nI (b ||| (2 ^ r)))) (or_nI _ _) ?_
                  refine lv_istore (lv' := [(6, .int (nI (b ||| (2 ^ r)))), (8, .int (oI (decP (A 0) C (nI r) (hP (A 0) 0 (nI t) ac dd dy sh)))), (7, .int (nI r)), (0, .ref o), (1, .int (nI t)), (2, .int ac), (3, .int dd), (4, .int dy), (5, .int sh)]) hE.x hE.b dX9_reads_101 hl (by decide) rfl (fun ls hl => ?_)
                  refine lv_iinc (v := (nI (r + 1))) (lv' := [(7, .int (nI (r + 1))), (6, .int (nI (b ||| (2 ^ r)))), (8, .int (oI (decP (A 0) C (nI r) (hP (A 0) 0 (nI t) ac dd dy sh)))), (0, .ref o), (1, .int (nI t)), (2, .int ac), (3, .int dd), (4, .int dy), (5, .int sh)]) hE.x hE.b dX9_reads_103 hl (k := 2) rfl (nI_add _ _) (by decide) rfl (fun ls hl => ?_)
                  refine lv_goto (tgt := 57) hE.x hE.b dX9_reads_106 (by decide) ?_
                  exact ih57 (b ||| (2 ^ r)) (r + 1) _ _ _ (by omega) (by omega) (rdB_y hb (by show alO _ _ = true; rw [oI_none c_32 (fun k h => by have := decP_lt h; omega)]; rfl)) hB (lv_sub hl [0, 1, 3, 4, 5, 6, 7, 8] rfl)
                · obtain ⟨q, hq⟩ := oI_some c_32
                  have hq8 := decP_lt hq
                  rw [hq] at hl
                  have hl : lv_has ls 9 [(8, .int (nI q)), (7, .int (nI r)), (6, .int (nI b)), (0, .ref o), (1, .int (nI t)), (2, .int ac), (3, .int dd), (4, .int dy), (5, .int sh)] := hl
                  refine lv_aload_n hE.x hE.b dX9_reads_79 rfl (lv_at hl 3 rfl) ?_
                  refine lv_iload hE.x hE.b dX9_reads_80 (lv_at hl 0 rfl) ?_
                  refine lv_iconst (v := nI 0) hE.x hE.b dX9_reads_82 rfl ?_
                  refine z_qi hB (z_cV hE hB (c_X9_has l g o a F1_21 L A X q 0 (by omega) (by omega)) q4_155 kX9_has ⟨rfl, rfl⟩ ⟨Nat.le_of_ble_eq_true rfl, Nat.le_of_ble_eq_true rfl⟩ 0 rfl rfl rfl hl.1 rfl (Nat.le_of_ble_eq_true rfl) dX9_reads_83 ⟨Nat.le_of_ble_eq_true rfl, Nat.le_of_ble_eq_true rfl⟩) (fun r_33 w_34 H locs hw hB => ?_)
                  obtain ⟨hr9, hw9⟩ := hw
                  have hr9 := hr9.symm
                  subst hr9
                  have hw9 := hw9.symm
                  subst hw9
                  refine z_qi hB (z_cS hE hB (c_X9_allows l g (A 0 (46 + 5 * q + 0)) (mW g o a F1_21 L A ++ X)) q4_159 kX9_allows ⟨rfl, rfl⟩ ⟨Nat.le_of_ble_eq_true rfl, Nat.le_of_ble_eq_true rfl⟩ rfl hl.1 rfl (Nat.le_of_ble_eq_true rfl) dX9_reads_86 ⟨Nat.le_of_ble_eq_true rfl, Nat.le_of_ble_eq_true rfl⟩) (fun r_35 w_36 H locs hw hB => ?_)
                  obtain ⟨hr9, hw9⟩ := hw
                  have hr9 := hr9.symm
                  subst hr9
                  have hw9 := hw9.symm
                  subst hw9
                  refine z_bf (b := (alw (A 0 (46 + 5 * q + 0)))) (tgt := 99) hE dX9_reads_89 (by decide) (fun c_37 => ?_) (fun c_37 => ?_)
                  · refine lv_iconst (v := nI 0) hE.x hE.b dX9_reads_99 rfl ?_
                    refine lv_ior hE.x hE.b dX9_reads_100 ?_
                    refine z_top (y := (nI (b ||| 0))) (or_nI _ _) ?_
                    refine lv_istore (lv' := [(6, .int (nI (b ||| 0))), (8, .int (nI q)), (7, .int (nI r)), (0, .ref o), (1, .int (nI t)), (2, .int ac), (3, .int dd), (4, .int dy), (5, .int sh)]) hE.x hE.b dX9_reads_101 hl (by decide) rfl (fun ls hl => ?_)
                    refine lv_iinc (v := (nI (r + 1))) (lv' := [(7, .int (nI (r + 1))), (6, .int (nI (b ||| 0))), (8, .int (nI q)), (0, .ref o), (1, .int (nI t)), (2, .int ac), (3, .int dd), (4, .int dy), (5, .int sh)]) hE.x hE.b dX9_reads_103 hl (k := 2) rfl (nI_add _ _) (by decide) rfl (fun ls hl => ?_)
                    refine lv_goto (tgt := 57) hE.x hE.b dX9_reads_106 (by decide) ?_
                    exact ih57 (b ||| 0) (r + 1) _ _ _ (by omega) (by omega) (rdB_n hb (by show ¬ alO _ _ = true; rw [hq]; show ¬ alw _ = true; rw [c_37]; decide)) hB (lv_sub hl [0, 1, 3, 4, 5, 6, 7, 8] rfl)
                  · refine lv_iconst (v := nI 1) hE.x hE.b dX9_reads_92 rfl ?_
                    refine lv_iload hE.x hE.b dX9_reads_93 (lv_at hl 1 rfl) ?_
                    refine lv_ishl hE.x hE.b dX9_reads_95 ?_
                    refine z_top (y := (nI (2 ^ r))) (shl_8 r (by omega)) ?_
                    refine lv_goto (tgt := 100) hE.x hE.b dX9_reads_96 (by decide) ?_
                    refine lv_ior hE.x hE.b dX9_reads_100 ?_
                    refine z_top (y := (nI (b ||| (2 ^ r)))) (or_nI _ _) ?_
                    refine lv_istore (lv' := [(6, .int (nI (b ||| (2 ^ r)))), (8, .int (nI q)), (7, .int (nI r)), (0, .ref o), (1, .int (nI t)), (2, .int ac), (3, .int dd), (4, .int dy), (5, .int sh)]) hE.x hE.b dX9_reads_101 hl (by decide) rfl (fun ls hl => ?_)
                    refine lv_iinc (v := (nI (r + 1))) (lv' := [(7, .int (nI (r + 1))), (6, .int (nI (b ||| (2 ^ r)))), (8, .int (nI q)), (0, .ref o), (1, .int (nI t)), (2, .int ac), (3, .int dd), (4, .int dy), (5, .int sh)]) hE.x hE.b dX9_reads_103 hl (k := 2) rfl (nI_add _ _) (by decide) rfl (fun ls hl => ?_)
                    refine lv_goto (tgt := 57) hE.x hE.b dX9_reads_106 (by decide) ?_
                    exact ih57 (b ||| (2 ^ r)) (r + 1) _ _ _ (by omega) (by omega) (rdB_y hb (by show alO _ _ = true; rw [hq]; exact c_37)) hB (lv_sub hl [0, 1, 3, 4, 5, 6, 7, 8] rfl)
          exact k57 (4 - 0 + 1) 0 0 _ _ _ (Nat.lt_succ_self _) (by omega) rfl hB hl
        · refine lv_aload_n hE.x hE.b dX9_reads_32 rfl (lv_at hl 0 rfl) ?_
          refine lv_bipush (v := (-2)) hE.x hE.b dX9_reads_33 rfl ?_
          refine z_qi hB (z_cV hE hB (c_X9_bad l g o a F L A X (-2)) q4_91 kX9_bad ⟨rfl, rfl⟩ ⟨Nat.le_of_ble_eq_true rfl, Nat.le_of_ble_eq_true rfl⟩ 0 rfl rfl rfl hl.1 rfl (Nat.le_of_ble_eq_true rfl) dX9_reads_35 ⟨Nat.le_of_ble_eq_true rfl, Nat.le_of_ble_eq_true rfl⟩) (fun r_38 w_39 H locs hw hB => ?_)
          obtain ⟨hr9, hw9⟩ := hw
          have hr9 := hr9.symm
          subst hr9
          have hw9 := hw9.symm
          subst hw9
          exact z_iret (v := (-2)) (ws := mW g o a F L (bump 0 A) ++ X) hE hB hr (⟨F, by unfold readsR askOK; simp only [c_3, c_8, c_13, c_18, Bool.and_false, Bool.false_and, Bool.false_eq_true, if_false], by unfold chk askOK; simp only [c_3, c_8, c_13, c_18, Bool.and_false, Bool.false_and, Bool.false_eq_true, if_false], rfl⟩) dX9_reads_38

set_option maxHeartbeats 4000000 in
set_option maxRecDepth 100000 in
theorem c_X9_forbidsSome (l : Launch) (g : zG) (o : Nat) (a : Nat → Nat) (F : Nat → Int32) (L : Nat → Int64) (A : Nat → Nat → Int32) (X : va_W) (C : Nat) (t : Nat) (ac : Nat) (dd : Int32) (S : Nat) (hC : A 0 1 = nI C) (hC8 : C ≤ 8) (ht : t < 6) (hac : ac < 64) (hS : S < 256) : Met l yX9_forbidsSome (Cond.code yX9_forbidsSome cX9_forbidsSome 7 (some .boolean) :: TBL) { frames := 6, cells := 0, slots := 0, locals := 154 } (zPc [.ref o, .int (nI t), .int (nI ac), .int dd, .int (nI S)] g (mW g o a F L A ++ X)) (zQi g (fun r ws => ∃ (F1 : Nat → Int32), r = bI (fbB (acAl (A 0) C dd S) ac t) ∧ ws = mW g o a F1 L A ++ X ∧ F1 16 = F 16)) 0 0 (zA (gz g)) := by
  refine z_start (by decide +kernel) rfl (Nat.le_of_ble_eq_true rfl) ?_
  intro p e s m args below meth c ls hE hr hnm hB hl
  have hl : lv_has ls 7 [(0, .ref o), (1, .int (nI t)), (2, .int (nI ac)), (3, .int dd), (4, .int (nI S))] := hl
  revert hB
  generalize s.heap = H
  generalize ([] : List Loc) = locs
  intro hB
  have h16 : F 16 = F 16 := rfl
  refine lv_iconst (v := nI 0) hE.x hE.b dX9_forbidsSome_0 rfl ?_
  refine lv_istore (lv' := [(5, .int (nI 0)), (0, .ref o), (1, .int (nI t)), (2, .int (nI ac)), (3, .int dd), (4, .int (nI S))]) hE.x hE.b dX9_forbidsSome_1 hl (by decide) rfl (fun ls hl => ?_)
  refine lv_iconst (v := nI 0) hE.x hE.b dX9_forbidsSome_3 rfl ?_
  refine lv_istore (lv' := [(6, .int (nI 0)), (5, .int (nI 0)), (0, .ref o), (1, .int (nI t)), (2, .int (nI ac)), (3, .int dd), (4, .int (nI S))]) hE.x hE.b dX9_forbidsSome_4 hl (by decide) rfl (fun ls hl => ?_)
  have k6 : ∀ (fu : Nat) (act : Nat) (f : Bool) (F1 : Nat → Int32) (H : Heap) (locs : List Loc) (ls : Array Slot), 6 - act < fu → (act ≤ 6) → (F1 16 = F 16) → (f = true ↔ fbP (acAl (A 0) C dd S) ac t act) → zB g s (mW g o a F1 L A ++ X) H locs → lv_has ls 7 [(6, .int (nI act)), (5, .int (bI f)), (0, .ref o), (1, .int (nI t)), (2, .int (nI ac)), (3, .int dd), (4, .int (nI S))] → W p l e { frames := 6, cells := 0, slots := 0, locals := 154 } s m args below meth c H locs 0 0 (MQ below (zQi g (fun r ws => ∃ (F1 : Nat → Int32), r = bI (fbB (acAl (A 0) C dd S) ac t) ∧ ws = mW g o a F1 L A ++ X ∧ F1 16 = F 16)) args s 0 0 (zA (gz g))) (F0 m 6 ls []) := by
    intro fu
    induction fu with
    | zero => intro act f F1 H locs ls hfu hact h16 hf hB hl; exact absurd hfu (Nat.not_lt_zero _)
    | succ fu ih6 =>
      intro act f F1 H locs ls hfu hact h16 hf hB hl
      refine lv_iload hE.x hE.b dX9_forbidsSome_6 (lv_at hl 0 rfl) ?_
      refine lv_bipush (v := (nI 6)) hE.x hE.b dX9_forbidsSome_8 rfl ?_
      refine z_ge (tgt := 56) (X := ((act : Nat) : Int)) (Y := (6 : Int)) hE dX9_forbidsSome_10 (by decide) (nI_toInt (n := act) (by omega)) rfl (fun c_1 => ?_) (fun c_1 => ?_)
      · refine lv_iload hE.x hE.b dX9_forbidsSome_56 (lv_at hl 1 rfl) ?_
        exact z_bret (b := f) (ws := mW g o a F1 L A ++ X) hE hB hr (⟨F1, congrArg bI (fb_out hf hact (Or.inl (by omega))), rfl, h16⟩) dX9_forbidsSome_58
      · refine lv_iload hE.x hE.b dX9_forbidsSome_13 (lv_at hl 1 rfl) ?_
        refine z_bt (b := f) (tgt := 56) hE dX9_forbidsSome_15 (by decide) (fun c_2 => ?_) (fun c_2 => ?_)
        · refine lv_iload hE.x hE.b dX9_forbidsSome_56 (lv_at hl 1 rfl) ?_
          exact z_bret (b := f) (ws := mW g o a F1 L A ++ X) hE hB hr (⟨F1, congrArg bI (fb_out hf hact (Or.inr c_2)), rfl, h16⟩) dX9_forbidsSome_58
        · refine lv_iload_n hE.x hE.b dX9_forbidsSome_18 rfl (lv_at hl 4 rfl) ?_
          refine lv_iload hE.x hE.b dX9_forbidsSome_19 (lv_at hl 0 rfl) ?_
          refine lv_ishr hE.x hE.b dX9_forbidsSome_21 ?_
          refine z_top (y := (nI (ac / 2 ^ act))) (shr_nI (by omega) (by omega)) ?_
          refine lv_iconst (v := nI 1) hE.x hE.b dX9_forbidsSome_22 rfl ?_
          refine lv_iand hE.x hE.b dX9_forbidsSome_23 ?_
          refine z_top (y := (nI (ac / 2 ^ act % 2))) (and1_nI (by have := Nat.div_le_self ac (2 ^ act); omega)) ?_
          have hb2 : ac / 2 ^ act % 2 < 2 := Nat.mod_lt _ (by omega)
          refine lv_iconst (v := nI 1) hE.x hE.b dX9_forbidsSome_24 rfl ?_
          refine z_ne (tgt := 47) (X := (((ac / 2 ^ act % 2) : Nat) : Int)) (Y := (1 : Int)) hE dX9_forbidsSome_25 (by decide) (nI_toInt (n := (ac / 2 ^ act % 2)) (by omega)) rfl (fun c_3 => ?_) (fun c_3 => ?_)
          · refine lv_iconst (v := nI 0) hE.x hE.b dX9_forbidsSome_47 rfl ?_
            refine lv_istore (lv' := [(5, .int (nI 0)), (6, .int (nI act)), (0, .ref o), (1, .int (nI t)), (2, .int (nI ac)), (3, .int dd), (4, .int (nI S))]) hE.x hE.b dX9_forbidsSome_48 hl (by decide) rfl (fun ls hl => ?_)
            refine lv_iinc (v := (nI (act + 1))) (lv' := [(6, .int (nI (act + 1))), (5, .int (nI 0)), (0, .ref o), (1, .int (nI t)), (2, .int (nI ac)), (3, .int dd), (4, .int (nI S))]) hE.x hE.b dX9_forbidsSome_50 hl (k := 1) rfl (nI_add _ _) (by decide) rfl (fun ls hl => ?_)
            refine lv_goto (tgt := 6) hE.x hE.b dX9_forbidsSome_53 (by decide) ?_
            exact ih6 (act + 1) false F1 _ _ _ (by omega) (by omega) h16 (fb_st hf c_2 ⟨fun h => (by cases h), fun h => absurd h.1 (by omega)⟩) hB hl
          · refine lv_aload_n hE.x hE.b dX9_forbidsSome_28 rfl (lv_at hl 2 rfl) ?_
            refine lv_iload_n hE.x hE.b dX9_forbidsSome_29 rfl (lv_at hl 3 rfl) ?_
            refine lv_iload hE.x hE.b dX9_forbidsSome_30 (lv_at hl 0 rfl) ?_
            refine lv_iload_n hE.x hE.b dX9_forbidsSome_32 rfl (lv_at hl 5 rfl) ?_
            refine lv_iconst (v := nI 0) hE.x hE.b dX9_forbidsSome_33 rfl ?_
            refine lv_iconst (v := nI 0) hE.x hE.b dX9_forbidsSome_34 rfl ?_
            refine lv_iload hE.x hE.b dX9_forbidsSome_35 (lv_at hl 6 rfl) ?_
            refine z_qi hB (z_cV hE hB (c_X9_isAllowed l g o a F1 L A X C t (nI act) dd (nI 0) (nI 0) S hC (by omega) (by omega) (by omega)) q4_207 kX9_isAllowed ⟨rfl, rfl⟩ ⟨Nat.le_of_ble_eq_true rfl, Nat.le_of_ble_eq_true rfl⟩ 0 rfl rfl rfl hl.1 rfl (Nat.le_of_ble_eq_true rfl) dX9_forbidsSome_37 ⟨Nat.le_of_ble_eq_true rfl, Nat.le_of_ble_eq_true rfl⟩) (fun r_4 w_5 H locs hw hB => ?_)
            obtain ⟨F1_6, hr9, hw9, hf_7⟩ := hw
            have hr9 := hr9.symm
            subst hr9
            have hw9 := hw9.symm
            subst hw9
            have h16 := hf_7.trans h16
            refine z_bt (b := (isA (A 0) C t (nI act) dd (nI 0) (nI 0) S)) (tgt := 47) hE dX9_forbidsSome_40 (by decide) (fun c_8 => ?_) (fun c_8 => ?_)
            · refine lv_iconst (v := nI 0) hE.x hE.b dX9_forbidsSome_47 rfl ?_
              refine lv_istore (lv' := [(5, .int (nI 0)), (6, .int (nI act)), (0, .ref o), (1, .int (nI t)), (2, .int (nI ac)), (3, .int dd), (4, .int (nI S))]) hE.x hE.b dX9_forbidsSome_48 hl (by decide) rfl (fun ls hl => ?_)
              refine lv_iinc (v := (nI (act + 1))) (lv' := [(6, .int (nI (act + 1))), (5, .int (nI 0)), (0, .ref o), (1, .int (nI t)), (2, .int (nI ac)), (3, .int dd), (4, .int (nI S))]) hE.x hE.b dX9_forbidsSome_50 hl (k := 1) rfl (nI_add _ _) (by decide) rfl (fun ls hl => ?_)
              refine lv_goto (tgt := 6) hE.x hE.b dX9_forbidsSome_53 (by decide) ?_
              exact ih6 (act + 1) false F1_6 _ _ _ (by omega) (by omega) h16 (fb_st hf c_2 ⟨fun h => (by cases h), fun h => (by rw [show (acAl (A 0) C dd S) act t = true from c_8] at h; exact absurd h.2 (by decide))⟩) hB hl
            · refine lv_iconst (v := nI 1) hE.x hE.b dX9_forbidsSome_43 rfl ?_
              refine lv_goto (tgt := 48) hE.x hE.b dX9_forbidsSome_44 (by decide) ?_
              refine lv_istore (lv' := [(5, .int (nI 1)), (6, .int (nI act)), (0, .ref o), (1, .int (nI t)), (2, .int (nI ac)), (3, .int dd), (4, .int (nI S))]) hE.x hE.b dX9_forbidsSome_48 hl (by decide) rfl (fun ls hl => ?_)
              refine lv_iinc (v := (nI (act + 1))) (lv' := [(6, .int (nI (act + 1))), (5, .int (nI 1)), (0, .ref o), (1, .int (nI t)), (2, .int (nI ac)), (3, .int dd), (4, .int (nI S))]) hE.x hE.b dX9_forbidsSome_50 hl (k := 1) rfl (nI_add _ _) (by decide) rfl (fun ls hl => ?_)
              refine lv_goto (tgt := 6) hE.x hE.b dX9_forbidsSome_53 (by decide) ?_
              exact ih6 (act + 1) true F1_6 _ _ _ (by omega) (by omega) h16 (fb_st hf c_2 ⟨fun _ => ⟨by omega, c_8⟩, fun _ => rfl⟩) hB hl
  exact k6 (6 - 0 + 1) 0 false F _ _ _ (Nat.lt_succ_self _) (by omega) h16 fbP_0 hB hl

set_option maxHeartbeats 4000000 in
set_option maxRecDepth 100000 in
theorem c_X9_givesIn (l : Launch) (g : zG) (o : Nat) (a : Nat → Nat) (F : Nat → Int32) (L : Nat → Int64) (A : Nat → Nat → Int32) (X : va_W) (C : Nat) (T : Nat) (k : Nat) (pp : Nat) (ac : Nat) (S : Nat) (hT : A 0 0 = nI T) (hT6 : T ≤ 6) (hC : A 0 1 = nI C) (hC8 : C ≤ 8) (hk : k ≤ 99) (hp : pp ≤ 99) (hac : ac < 64) (hS : S < 256) : Met l yX9_givesIn (Cond.code yX9_givesIn cX9_givesIn 10 (some .int) :: TBL) { frames := 7, cells := 0, slots := 0, locals := 180 } (zPc [.ref o, .int (nI k), .int (nI pp), .int (nI ac), .int (nI S)] g (mW g o a F L A ++ X)) (zQi g (fun r ws => ∃ (F1 : Nat → Int32), r = (oI (gD1 (giR (A 0) T C k pp ac S))) ∧ ws = mW g o a F1 L A ++ X ∧ F1 16 = F 16 ∧ F1 13 = oI (gW1 (giR (A 0) T C k pp ac S)))) 0 0 (zA (gz g)) := by
  refine z_start (by decide +kernel) rfl (Nat.le_of_ble_eq_true rfl) ?_
  intro p e s m args below meth c ls hE hr hnm hB hl
  have hl : lv_has ls 10 [(0, .ref o), (1, .int (nI k)), (2, .int (nI pp)), (3, .int (nI ac)), (4, .int (nI S))] := hl
  revert hB
  generalize s.heap = H
  generalize ([] : List Loc) = locs
  intro hB
  have h16 : F 16 = F 16 := rfl
  refine lv_iload_n hE.x hE.b dX9_givesIn_0 rfl (lv_at hl 1 rfl) ?_
  refine lv_istore (lv' := [(5, .int (nI k)), (0, .ref o), (1, .int (nI k)), (2, .int (nI pp)), (3, .int (nI ac)), (4, .int (nI S))]) hE.x hE.b dX9_givesIn_1 hl (by decide) rfl (fun ls hl => ?_)
  refine lv_iload_n hE.x hE.b dX9_givesIn_3 rfl (lv_at hl 3 rfl) ?_
  refine lv_istore (lv' := [(6, .int (nI pp)), (5, .int (nI k)), (0, .ref o), (1, .int (nI k)), (2, .int (nI pp)), (3, .int (nI ac)), (4, .int (nI S))]) hE.x hE.b dX9_givesIn_4 hl (by decide) rfl (fun ls hl => ?_)
  refine lv_iconst (v := nI 0) hE.x hE.b dX9_givesIn_6 rfl ?_
  refine lv_istore (lv' := [(7, .int (nI 0)), (6, .int (nI pp)), (5, .int (nI k)), (0, .ref o), (1, .int (nI k)), (2, .int (nI pp)), (3, .int (nI ac)), (4, .int (nI S))]) hE.x hE.b dX9_givesIn_7 hl (by decide) rfl (fun ls hl => ?_)
  have k9 : ∀ (fu : Nat) (d : Nat) (kI : Int32) (pI : Int32) (K : Int) (P : Int) (F1 : Nat → Int32) (H : Heap) (locs : List Loc) (ls : Array Slot), 60 - d < fu → (d ≤ 60) → (F1 16 = F 16) → (kI.toInt = K) → (pI.toInt = P) → (-(6 * (d : Int)) ≤ K ∧ K ≤ 99) → (-(6 * (d : Int)) ≤ P ∧ P ≤ 99) → (giR (A 0) T C k pp ac S = giv (prsD (A 0) T C ac S) T (60 - d) d K P) → zB g s (mW g o a F1 L A ++ X) H locs → lv_has ls 10 [(7, .int (nI d)), (6, .int pI), (5, .int kI), (0, .ref o), (1, .int (nI k)), (2, .int (nI pp)), (3, .int (nI ac)), (4, .int (nI S))] → W p l e { frames := 7, cells := 0, slots := 0, locals := 180 } s m args below meth c H locs 0 0 (MQ below (zQi g (fun r ws => ∃ (F1 : Nat → Int32), r = (oI (gD1 (giR (A 0) T C k pp ac S))) ∧ ws = mW g o a F1 L A ++ X ∧ F1 16 = F 16 ∧ F1 13 = oI (gW1 (giR (A 0) T C k pp ac S)))) args s 0 0 (zA (gz g))) (F0 m 9 ls []) := by
    intro fu
    induction fu with
    | zero => intro d kI pI K P F1 H locs ls hfu hd h16 hK hP hKb hPb hg hB hl; exact absurd hfu (Nat.not_lt_zero _)
    | succ fu ih9 =>
      intro d kI pI K P F1 H locs ls hfu hd h16 hK hP hKb hPb hg hB hl
      refine lv_iload hE.x hE.b dX9_givesIn_9 (lv_at hl 0 rfl) ?_
      refine lv_bipush (v := (nI 60)) hE.x hE.b dX9_givesIn_11 rfl ?_
      refine z_ge (tgt := 119) (X := ((d : Nat) : Int)) (Y := (60 : Int)) hE dX9_givesIn_13 (by decide) (nI_toInt (n := d) (by omega)) rfl (fun c_1 => ?_) (fun c_1 => ?_)
      · refine lv_aload_n hE.x hE.b dX9_givesIn_119 rfl (lv_at hl 3 rfl) ?_
        refine lv_iconst (v := (-1)) hE.x hE.b dX9_givesIn_120 rfl ?_
        refine z_put (v := .int (-1)) (ty := .int) (ws' := mW g o a (upd F1 13 (-1)) L A ++ X) hE hB inX9 tyX9 tyX9_ok nmX9 0 rfl rfl 13 (by decide) q4_14 (fun _ h9 => h9) rfl (by decide +kernel) rfl rfl (Nat.le_of_ble_eq_true rfl) rfl dX9_givesIn_121 (fun H locs hB => ?_)
        refine lv_iconst (v := (-1)) hE.x hE.b dX9_givesIn_124 rfl ?_
        exact z_iret (v := (-1)) (ws := mW g o a (upd F1 13 (-1)) L A ++ X) hE hB hr (⟨(upd F1 13 (-1)), by rw [hg, show 60 - d = 0 by omega]; rfl, rfl, h16, by rw [hg, show 60 - d = 0 by omega]; rfl⟩) dX9_givesIn_125
      · refine lv_iconst (v := nI 0) hE.x hE.b dX9_givesIn_16 rfl ?_
        refine lv_istore (lv' := [(8, .int (nI 0)), (7, .int (nI d)), (6, .int pI), (5, .int kI), (0, .ref o), (1, .int (nI k)), (2, .int (nI pp)), (3, .int (nI ac)), (4, .int (nI S))]) hE.x hE.b dX9_givesIn_17 hl (by decide) rfl (fun ls hl => ?_)
        have k19 : ∀ (fu : Nat) (t : Nat) (kI : Int32) (pI : Int32) (F1 : Nat → Int32) (H : Heap) (locs : List Loc) (ls : Array Slot), T - t < fu → (t ≤ T) → (F1 16 = F 16) → (kI.toInt = K - (cn (fun t => fbB (acAl (A 0) C (nI d) S) ac t) t : Nat)) → (pI.toInt = P - (t - cn (fun t => fbB (acAl (A 0) C (nI d) S) ac t) t : Nat)) → zB g s (mW g o a F1 L A ++ X) H locs → lv_has ls 10 [(8, .int (nI t)), (7, .int (nI d)), (6, .int pI), (5, .int kI), (0, .ref o), (1, .int (nI k)), (2, .int (nI pp)), (3, .int (nI ac)), (4, .int (nI S))] → W p l e { frames := 7, cells := 0, slots := 0, locals := 180 } s m args below meth c H locs 0 0 (MQ below (zQi g (fun r ws => ∃ (F1 : Nat → Int32), r = (oI (gD1 (giR (A 0) T C k pp ac S))) ∧ ws = mW g o a F1 L A ++ X ∧ F1 16 = F 16 ∧ F1 13 = oI (gW1 (giR (A 0) T C k pp ac S)))) args s 0 0 (zA (gz g))) (F0 m 19 ls []) := by
          intro fu
          induction fu with
          | zero => intro t kI pI F1 H locs ls hfu ht h16 hK hP hB hl; exact absurd hfu (Nat.not_lt_zero _)
          | succ fu ih19 =>
            intro t kI pI F1 H locs ls hfu ht h16 hK hP hB hl
            refine lv_iload hE.x hE.b dX9_givesIn_19 (lv_at hl 0 rfl) ?_
            refine lv_aload_n hE.x hE.b dX9_givesIn_21 rfl (lv_at hl 4 rfl) ?_
            refine z_qi hB (z_cV hE hB (c_X9_towns l g o a F1 L A X T hT) q4_76 kX9_towns ⟨rfl, rfl⟩ ⟨Nat.le_of_ble_eq_true rfl, Nat.le_of_ble_eq_true rfl⟩ 0 rfl rfl rfl hl.1 rfl (Nat.le_of_ble_eq_true rfl) dX9_givesIn_22 ⟨Nat.le_of_ble_eq_true rfl, Nat.le_of_ble_eq_true rfl⟩) (fun r_2 w_3 H locs hw hB => ?_)
            obtain ⟨hr9, hw9⟩ := hw
            have hr9 := hr9.symm
            subst hr9
            have hw9 := hw9.symm
            subst hw9
            refine z_ge (tgt := 77) (X := ((t : Nat) : Int)) (Y := ((T : Nat) : Int)) hE dX9_givesIn_25 (by decide) (nI_toInt (n := t) (by omega)) (nI_toInt (n := T) (by omega)) (fun c_4 => ?_) (fun c_4 => ?_)
            · refine lv_iload hE.x hE.b dX9_givesIn_77 (lv_at hl 3 rfl) ?_
              have hcT := cn_le (fun t => fbB (acAl (A 0) C (nI d) S) ac t) T
              have e1 : ((prsD (A 0) T C ac S) d) = cn (fun t => fbB (acAl (A 0) C (nI d) S) ac t) T := rfl
              have htT : t = T := by omega
              rw [htT, ← e1] at hK hP
              rw [← e1] at hcT
              refine z_le0 (tgt := 87) (X := kI.toInt) hE dX9_givesIn_79 (by decide) rfl (fun c_5 => ?_) (fun c_5 => ?_)
              · refine lv_aload_n hE.x hE.b dX9_givesIn_87 rfl (lv_at hl 4 rfl) ?_
                refine lv_iload hE.x hE.b dX9_givesIn_88 (lv_at hl 3 rfl) ?_
                refine z_le0 (tgt := 97) (X := kI.toInt) hE dX9_givesIn_90 (by decide) rfl (fun c_6 => ?_) (fun c_6 => ?_)
                · refine lv_iload hE.x hE.b dX9_givesIn_97 (lv_at hl 2 rfl) ?_
                  refine z_le0 (tgt := 106) (X := pI.toInt) hE dX9_givesIn_99 (by decide) rfl (fun c_7 => ?_) (fun c_7 => ?_)
                  · refine lv_iconst (v := nI 2) hE.x hE.b dX9_givesIn_106 rfl ?_
                    refine z_put (v := .int (nI 2)) (ty := .int) (ws' := mW g o a (upd F1 13 (nI 2)) L A ++ X) hE hB inX9 tyX9 tyX9_ok nmX9 0 rfl rfl 13 (by decide) q4_14 (fun _ h9 => h9) rfl (by decide +kernel) rfl rfl (Nat.le_of_ble_eq_true rfl) rfl dX9_givesIn_107 (fun H locs hB => ?_)
                    refine lv_iload hE.x hE.b dX9_givesIn_110 (lv_at hl 1 rfl) ?_
                    exact z_iret (v := (nI d)) (ws := mW g o a (upd F1 13 (nI 2)) L A ++ X) hE hB hr (⟨(upd F1 13 (nI 2)), by rw [hg, giv_yes (w := 2) (by omega) (by omega) (by rw [if_neg (by omega), if_neg (by omega)])]; rfl, rfl, h16, by rw [hg, giv_yes (w := 2) (by omega) (by omega) (by rw [if_neg (by omega), if_neg (by omega)])]; rfl⟩) dX9_givesIn_112
                  · refine lv_iconst (v := nI 0) hE.x hE.b dX9_givesIn_102 rfl ?_
                    refine lv_goto (tgt := 107) hE.x hE.b dX9_givesIn_103 (by decide) ?_
                    refine z_put (v := .int (nI 0)) (ty := .int) (ws' := mW g o a (upd F1 13 (nI 0)) L A ++ X) hE hB inX9 tyX9 tyX9_ok nmX9 0 rfl rfl 13 (by decide) q4_14 (fun _ h9 => h9) rfl (by decide +kernel) rfl rfl (Nat.le_of_ble_eq_true rfl) rfl dX9_givesIn_107 (fun H locs hB => ?_)
                    refine lv_iload hE.x hE.b dX9_givesIn_110 (lv_at hl 1 rfl) ?_
                    exact z_iret (v := (nI d)) (ws := mW g o a (upd F1 13 (nI 0)) L A ++ X) hE hB hr (⟨(upd F1 13 (nI 0)), by rw [hg, giv_yes (w := 0) (by omega) (by omega) (by rw [if_neg (by omega), if_pos (by omega)])]; rfl, rfl, h16, by rw [hg, giv_yes (w := 0) (by omega) (by omega) (by rw [if_neg (by omega), if_pos (by omega)])]; rfl⟩) dX9_givesIn_112
                · refine lv_iconst (v := nI 1) hE.x hE.b dX9_givesIn_93 rfl ?_
                  refine lv_goto (tgt := 107) hE.x hE.b dX9_givesIn_94 (by decide) ?_
                  refine z_put (v := .int (nI 1)) (ty := .int) (ws' := mW g o a (upd F1 13 (nI 1)) L A ++ X) hE hB inX9 tyX9 tyX9_ok nmX9 0 rfl rfl 13 (by decide) q4_14 (fun _ h9 => h9) rfl (by decide +kernel) rfl rfl (Nat.le_of_ble_eq_true rfl) rfl dX9_givesIn_107 (fun H locs hB => ?_)
                  refine lv_iload hE.x hE.b dX9_givesIn_110 (lv_at hl 1 rfl) ?_
                  exact z_iret (v := (nI d)) (ws := mW g o a (upd F1 13 (nI 1)) L A ++ X) hE hB hr (⟨(upd F1 13 (nI 1)), by rw [hg, giv_yes (w := 1) (by omega) (by omega) (by rw [if_pos (by omega)])]; rfl, rfl, h16, by rw [hg, giv_yes (w := 1) (by omega) (by omega) (by rw [if_pos (by omega)])]; rfl⟩) dX9_givesIn_112
              · refine lv_iload hE.x hE.b dX9_givesIn_82 (lv_at hl 2 rfl) ?_
                refine z_gt0 (tgt := 113) (X := pI.toInt) hE dX9_givesIn_84 (by decide) rfl (fun c_8 => ?_) (fun c_8 => ?_)
                · refine lv_iinc (v := (nI (d + 1))) (lv' := [(7, .int (nI (d + 1))), (8, .int (nI t)), (6, .int pI), (5, .int kI), (0, .ref o), (1, .int (nI k)), (2, .int (nI pp)), (3, .int (nI ac)), (4, .int (nI S))]) hE.x hE.b dX9_givesIn_113 hl (k := 1) rfl (nI_add _ _) (by decide) rfl (fun ls hl => ?_)
                  refine lv_goto (tgt := 9) hE.x hE.b dX9_givesIn_116 (by decide) ?_
                  exact ih9 (d + 1) kI pI (K - ((prsD (A 0) T C ac S) d : Nat)) (P - (T - (prsD (A 0) T C ac S) d : Nat)) F1 _ _ _ (by omega) (by omega) h16 hK hP (by omega) (by omega) (hg.trans (giv_no (by omega) (by omega))) hB (lv_sub hl [0, 2, 3, 4, 5, 6, 7, 8] rfl)
                · refine lv_aload_n hE.x hE.b dX9_givesIn_87 rfl (lv_at hl 4 rfl) ?_
                  refine lv_iload hE.x hE.b dX9_givesIn_88 (lv_at hl 3 rfl) ?_
                  refine z_le0 (tgt := 97) (X := kI.toInt) hE dX9_givesIn_90 (by decide) rfl (fun c_9 => ?_) (fun c_9 => ?_)
                  · refine lv_iload hE.x hE.b dX9_givesIn_97 (lv_at hl 2 rfl) ?_
                    refine z_le0 (tgt := 106) (X := pI.toInt) hE dX9_givesIn_99 (by decide) rfl (fun c_10 => ?_) (fun c_10 => ?_)
                    · refine lv_iconst (v := nI 2) hE.x hE.b dX9_givesIn_106 rfl ?_
                      refine z_put (v := .int (nI 2)) (ty := .int) (ws' := mW g o a (upd F1 13 (nI 2)) L A ++ X) hE hB inX9 tyX9 tyX9_ok nmX9 0 rfl rfl 13 (by decide) q4_14 (fun _ h9 => h9) rfl (by decide +kernel) rfl rfl (Nat.le_of_ble_eq_true rfl) rfl dX9_givesIn_107 (fun H locs hB => ?_)
                      refine lv_iload hE.x hE.b dX9_givesIn_110 (lv_at hl 1 rfl) ?_
                      exact z_iret (v := (nI d)) (ws := mW g o a (upd F1 13 (nI 2)) L A ++ X) hE hB hr (⟨(upd F1 13 (nI 2)), by rw [hg, giv_yes (w := 2) (by omega) (by omega) (by rw [if_neg (by omega), if_neg (by omega)])]; rfl, rfl, h16, by rw [hg, giv_yes (w := 2) (by omega) (by omega) (by rw [if_neg (by omega), if_neg (by omega)])]; rfl⟩) dX9_givesIn_112
                    · refine lv_iconst (v := nI 0) hE.x hE.b dX9_givesIn_102 rfl ?_
                      refine lv_goto (tgt := 107) hE.x hE.b dX9_givesIn_103 (by decide) ?_
                      refine z_put (v := .int (nI 0)) (ty := .int) (ws' := mW g o a (upd F1 13 (nI 0)) L A ++ X) hE hB inX9 tyX9 tyX9_ok nmX9 0 rfl rfl 13 (by decide) q4_14 (fun _ h9 => h9) rfl (by decide +kernel) rfl rfl (Nat.le_of_ble_eq_true rfl) rfl dX9_givesIn_107 (fun H locs hB => ?_)
                      refine lv_iload hE.x hE.b dX9_givesIn_110 (lv_at hl 1 rfl) ?_
                      exact z_iret (v := (nI d)) (ws := mW g o a (upd F1 13 (nI 0)) L A ++ X) hE hB hr (⟨(upd F1 13 (nI 0)), by rw [hg, giv_yes (w := 0) (by omega) (by omega) (by rw [if_neg (by omega), if_pos (by omega)])]; rfl, rfl, h16, by rw [hg, giv_yes (w := 0) (by omega) (by omega) (by rw [if_neg (by omega), if_pos (by omega)])]; rfl⟩) dX9_givesIn_112
                  · refine lv_iconst (v := nI 1) hE.x hE.b dX9_givesIn_93 rfl ?_
                    refine lv_goto (tgt := 107) hE.x hE.b dX9_givesIn_94 (by decide) ?_
                    refine z_put (v := .int (nI 1)) (ty := .int) (ws' := mW g o a (upd F1 13 (nI 1)) L A ++ X) hE hB inX9 tyX9 tyX9_ok nmX9 0 rfl rfl 13 (by decide) q4_14 (fun _ h9 => h9) rfl (by decide +kernel) rfl rfl (Nat.le_of_ble_eq_true rfl) rfl dX9_givesIn_107 (fun H locs hB => ?_)
                    refine lv_iload hE.x hE.b dX9_givesIn_110 (lv_at hl 1 rfl) ?_
                    exact z_iret (v := (nI d)) (ws := mW g o a (upd F1 13 (nI 1)) L A ++ X) hE hB hr (⟨(upd F1 13 (nI 1)), by rw [hg, giv_yes (w := 1) (by omega) (by omega) (by rw [if_pos (by omega)])]; rfl, rfl, h16, by rw [hg, giv_yes (w := 1) (by omega) (by omega) (by rw [if_pos (by omega)])]; rfl⟩) dX9_givesIn_112
            · have hcn := cn_le (fun t => fbB (acAl (A 0) C (nI d) S) ac t) t
              refine lv_aload_n hE.x hE.b dX9_givesIn_28 rfl (lv_at hl 4 rfl) ?_
              refine lv_iload hE.x hE.b dX9_givesIn_29 (lv_at hl 0 rfl) ?_
              refine lv_iload_n hE.x hE.b dX9_givesIn_31 rfl (lv_at hl 7 rfl) ?_
              refine lv_iload hE.x hE.b dX9_givesIn_32 (lv_at hl 1 rfl) ?_
              refine lv_iload hE.x hE.b dX9_givesIn_34 (lv_at hl 8 rfl) ?_
              refine z_qi hB (z_cV hE hB (c_X9_forbidsSome l g o a F1 L A X C t ac (nI d) S hC (by omega) (by omega) (by omega) (by omega)) q5_3 kX9_forbidsSome ⟨rfl, rfl⟩ ⟨Nat.le_of_ble_eq_true rfl, Nat.le_of_ble_eq_true rfl⟩ 0 rfl rfl rfl hl.1 rfl (Nat.le_of_ble_eq_true rfl) dX9_givesIn_36 ⟨Nat.le_of_ble_eq_true rfl, Nat.le_of_ble_eq_true rfl⟩) (fun r_11 w_12 H locs hw hB => ?_)
              obtain ⟨F1_13, hr9, hw9, hf_14⟩ := hw
              have hr9 := hr9.symm
              subst hr9
              have hw9 := hw9.symm
              subst hw9
              have h16 := hf_14.trans h16
              refine lv_istore (lv' := [(9, .int (bI (fbB (acAl (A 0) C (nI d) S) ac t))), (8, .int (nI t)), (7, .int (nI d)), (6, .int pI), (5, .int kI), (0, .ref o), (1, .int (nI k)), (2, .int (nI pp)), (3, .int (nI ac)), (4, .int (nI S))]) hE.x hE.b dX9_givesIn_39 hl (by decide) rfl (fun ls hl => ?_)
              refine lv_iload hE.x hE.b dX9_givesIn_41 (lv_at hl 4 rfl) ?_
              refine lv_iload hE.x hE.b dX9_givesIn_43 (lv_at hl 0 rfl) ?_
              refine z_bf (b := (fbB (acAl (A 0) C (nI d) S) ac t)) (tgt := 52) hE dX9_givesIn_45 (by decide) (fun c_15 => ?_) (fun c_15 => ?_)
              · refine lv_iconst (v := nI 0) hE.x hE.b dX9_givesIn_52 rfl ?_
                refine lv_isub hE.x hE.b dX9_givesIn_53 ?_
                refine lv_istore (lv' := [(5, .int (kI - (nI 0))), (9, .int (bI (fbB (acAl (A 0) C (nI d) S) ac t))), (8, .int (nI t)), (7, .int (nI d)), (6, .int pI), (0, .ref o), (1, .int (nI k)), (2, .int (nI pp)), (3, .int (nI ac)), (4, .int (nI S))]) hE.x hE.b dX9_givesIn_54 hl (by decide) rfl (fun ls hl => ?_)
                refine lv_iload hE.x hE.b dX9_givesIn_56 (lv_at hl 4 rfl) ?_
                refine lv_iload hE.x hE.b dX9_givesIn_58 (lv_at hl 1 rfl) ?_
                refine z_bf (b := (fbB (acAl (A 0) C (nI d) S) ac t)) (tgt := 67) hE dX9_givesIn_60 (by decide) (fun c_16 => ?_) (fun c_16 => ?_)
                · refine lv_iconst (v := nI 1) hE.x hE.b dX9_givesIn_67 rfl ?_
                  refine lv_isub hE.x hE.b dX9_givesIn_68 ?_
                  refine lv_istore (lv' := [(6, .int (pI - (nI 1))), (5, .int (kI - (nI 0))), (9, .int (bI (fbB (acAl (A 0) C (nI d) S) ac t))), (8, .int (nI t)), (7, .int (nI d)), (0, .ref o), (1, .int (nI k)), (2, .int (nI pp)), (3, .int (nI ac)), (4, .int (nI S))]) hE.x hE.b dX9_givesIn_69 hl (by decide) rfl (fun ls hl => ?_)
                  refine lv_iinc (v := (nI (t + 1))) (lv' := [(8, .int (nI (t + 1))), (6, .int (pI - (nI 1))), (5, .int (kI - (nI 0))), (9, .int (bI (fbB (acAl (A 0) C (nI d) S) ac t))), (7, .int (nI d)), (0, .ref o), (1, .int (nI k)), (2, .int (nI pp)), (3, .int (nI ac)), (4, .int (nI S))]) hE.x hE.b dX9_givesIn_71 hl (k := 3) rfl (nI_add _ _) (by decide) rfl (fun ls hl => ?_)
                  refine lv_goto (tgt := 19) hE.x hE.b dX9_givesIn_74 (by decide) ?_
                  exact ih19 (t + 1) (kI - (nI 0)) (pI - (nI 1)) F1_13 _ _ _ (by omega) (by omega) h16 (by rw [sub_toInt hK (by omega) (by omega) (by omega), cn_f (P := (fun t => fbB (acAl (A 0) C (nI d) S) ac t)) c_15]; omega) (by rw [sub_toInt hP (by omega) (by omega) (by omega), cn_f (P := (fun t => fbB (acAl (A 0) C (nI d) S) ac t)) c_16]; omega) hB (lv_sub hl [0, 4, 1, 2, 5, 6, 7, 8, 9] rfl)
                · refine lv_iconst (v := nI 0) hE.x hE.b dX9_givesIn_63 rfl ?_
                  refine lv_goto (tgt := 68) hE.x hE.b dX9_givesIn_64 (by decide) ?_
                  refine lv_isub hE.x hE.b dX9_givesIn_68 ?_
                  refine lv_istore (lv' := [(6, .int (pI - (nI 0))), (5, .int (kI - (nI 0))), (9, .int (bI (fbB (acAl (A 0) C (nI d) S) ac t))), (8, .int (nI t)), (7, .int (nI d)), (0, .ref o), (1, .int (nI k)), (2, .int (nI pp)), (3, .int (nI ac)), (4, .int (nI S))]) hE.x hE.b dX9_givesIn_69 hl (by decide) rfl (fun ls hl => ?_)
                  refine lv_iinc (v := (nI (t + 1))) (lv' := [(8, .int (nI (t + 1))), (6, .int (pI - (nI 0))), (5, .int (kI - (nI 0))), (9, .int (bI (fbB (acAl (A 0) C (nI d) S) ac t))), (7, .int (nI d)), (0, .ref o), (1, .int (nI k)), (2, .int (nI pp)), (3, .int (nI ac)), (4, .int (nI S))]) hE.x hE.b dX9_givesIn_71 hl (k := 3) rfl (nI_add _ _) (by decide) rfl (fun ls hl => ?_)
                  refine lv_goto (tgt := 19) hE.x hE.b dX9_givesIn_74 (by decide) ?_
                  exact ih19 (t + 1) (kI - (nI 0)) (pI - (nI 0)) F1_13 _ _ _ (by omega) (by omega) h16 (by rw [sub_toInt hK (by omega) (by omega) (by omega), cn_f (P := (fun t => fbB (acAl (A 0) C (nI d) S) ac t)) c_15]; omega) (by rw [sub_toInt hP (by omega) (by omega) (by omega), cn_t (P := (fun t => fbB (acAl (A 0) C (nI d) S) ac t)) c_16]; omega) hB (lv_sub hl [0, 4, 1, 2, 5, 6, 7, 8, 9] rfl)
              · refine lv_iconst (v := nI 1) hE.x hE.b dX9_givesIn_48 rfl ?_
                refine lv_goto (tgt := 53) hE.x hE.b dX9_givesIn_49 (by decide) ?_
                refine lv_isub hE.x hE.b dX9_givesIn_53 ?_
                refine lv_istore (lv' := [(5, .int (kI - (nI 1))), (9, .int (bI (fbB (acAl (A 0) C (nI d) S) ac t))), (8, .int (nI t)), (7, .int (nI d)), (6, .int pI), (0, .ref o), (1, .int (nI k)), (2, .int (nI pp)), (3, .int (nI ac)), (4, .int (nI S))]) hE.x hE.b dX9_givesIn_54 hl (by decide) rfl (fun ls hl => ?_)
                refine lv_iload hE.x hE.b dX9_givesIn_56 (lv_at hl 4 rfl) ?_
                refine lv_iload hE.x hE.b dX9_givesIn_58 (lv_at hl 1 rfl) ?_
                refine z_bf (b := (fbB (acAl (A 0) C (nI d) S) ac t)) (tgt := 67) hE dX9_givesIn_60 (by decide) (fun c_17 => ?_) (fun c_17 => ?_)
                · refine lv_iconst (v := nI 1) hE.x hE.b dX9_givesIn_67 rfl ?_
                  refine lv_isub hE.x hE.b dX9_givesIn_68 ?_
                  refine lv_istore (lv' := [(6, .int (pI - (nI 1))), (5, .int (kI - (nI 1))), (9, .int (bI (fbB (acAl (A 0) C (nI d) S) ac t))), (8, .int (nI t)), (7, .int (nI d)), (0, .ref o), (1, .int (nI k)), (2, .int (nI pp)), (3, .int (nI ac)), (4, .int (nI S))]) hE.x hE.b dX9_givesIn_69 hl (by decide) rfl (fun ls hl => ?_)
                  refine lv_iinc (v := (nI (t + 1))) (lv' := [(8, .int (nI (t + 1))), (6, .int (pI - (nI 1))), (5, .int (kI - (nI 1))), (9, .int (bI (fbB (acAl (A 0) C (nI d) S) ac t))), (7, .int (nI d)), (0, .ref o), (1, .int (nI k)), (2, .int (nI pp)), (3, .int (nI ac)), (4, .int (nI S))]) hE.x hE.b dX9_givesIn_71 hl (k := 3) rfl (nI_add _ _) (by decide) rfl (fun ls hl => ?_)
                  refine lv_goto (tgt := 19) hE.x hE.b dX9_givesIn_74 (by decide) ?_
                  exact ih19 (t + 1) (kI - (nI 1)) (pI - (nI 1)) F1_13 _ _ _ (by omega) (by omega) h16 (by rw [sub_toInt hK (by omega) (by omega) (by omega), cn_t (P := (fun t => fbB (acAl (A 0) C (nI d) S) ac t)) c_15]; omega) (by rw [sub_toInt hP (by omega) (by omega) (by omega), cn_f (P := (fun t => fbB (acAl (A 0) C (nI d) S) ac t)) c_17]; omega) hB (lv_sub hl [0, 4, 1, 2, 5, 6, 7, 8, 9] rfl)
                · refine lv_iconst (v := nI 0) hE.x hE.b dX9_givesIn_63 rfl ?_
                  refine lv_goto (tgt := 68) hE.x hE.b dX9_givesIn_64 (by decide) ?_
                  refine lv_isub hE.x hE.b dX9_givesIn_68 ?_
                  refine lv_istore (lv' := [(6, .int (pI - (nI 0))), (5, .int (kI - (nI 1))), (9, .int (bI (fbB (acAl (A 0) C (nI d) S) ac t))), (8, .int (nI t)), (7, .int (nI d)), (0, .ref o), (1, .int (nI k)), (2, .int (nI pp)), (3, .int (nI ac)), (4, .int (nI S))]) hE.x hE.b dX9_givesIn_69 hl (by decide) rfl (fun ls hl => ?_)
                  refine lv_iinc (v := (nI (t + 1))) (lv' := [(8, .int (nI (t + 1))), (6, .int (pI - (nI 0))), (5, .int (kI - (nI 1))), (9, .int (bI (fbB (acAl (A 0) C (nI d) S) ac t))), (7, .int (nI d)), (0, .ref o), (1, .int (nI k)), (2, .int (nI pp)), (3, .int (nI ac)), (4, .int (nI S))]) hE.x hE.b dX9_givesIn_71 hl (k := 3) rfl (nI_add _ _) (by decide) rfl (fun ls hl => ?_)
                  refine lv_goto (tgt := 19) hE.x hE.b dX9_givesIn_74 (by decide) ?_
                  exact ih19 (t + 1) (kI - (nI 1)) (pI - (nI 0)) F1_13 _ _ _ (by omega) (by omega) h16 (by rw [sub_toInt hK (by omega) (by omega) (by omega), cn_t (P := (fun t => fbB (acAl (A 0) C (nI d) S) ac t)) c_15]; omega) (by rw [sub_toInt hP (by omega) (by omega) (by omega), cn_t (P := (fun t => fbB (acAl (A 0) C (nI d) S) ac t)) c_17]; omega) hB (lv_sub hl [0, 4, 1, 2, 5, 6, 7, 8, 9] rfl)
        exact k19 (T - 0 + 1) 0 kI pI F1 _ _ _ (Nat.lt_succ_self _) (by omega) h16 (by rw [hK]; simp [cn]) (by rw [hP]; simp [cn]) hB hl
  exact k9 (60 - 0 + 1) 0 (nI k) (nI pp) (k : Int) (pp : Int) F _ _ _ (Nat.lt_succ_self _) (by omega) h16 (nI_toInt (by omega)) (nI_toInt (by omega)) (by omega) (by omega) rfl hB hl

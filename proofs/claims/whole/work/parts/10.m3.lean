theorem dX9_bits_0 : decode cX9_bits 0 = .ok (.iconst 0, 1) := by decide +kernel
theorem dX9_bits_1 : decode cX9_bits 1 = .ok (.istore_n 1, 1) := by decide +kernel
theorem dX9_bits_2 : decode cX9_bits 2 = .ok (.iload_n 0, 1) := by decide +kernel
theorem dX9_bits_3 : decode cX9_bits 3 = .ok (.istore_n 2, 1) := by decide +kernel
theorem dX9_bits_4 : decode cX9_bits 4 = .ok (.iload_n 2, 1) := by decide +kernel
theorem dX9_bits_5 : decode cX9_bits 5 = .ok (.ifCond .le 16, 3) := by decide +kernel
theorem dX9_bits_8 : decode cX9_bits 8 = .ok (.iload_n 1, 1) := by decide +kernel
theorem dX9_bits_9 : decode cX9_bits 9 = .ok (.iload_n 2, 1) := by decide +kernel
theorem dX9_bits_10 : decode cX9_bits 10 = .ok (.iconst 1, 1) := by decide +kernel
theorem dX9_bits_11 : decode cX9_bits 11 = .ok (.iand, 1) := by decide +kernel
theorem dX9_bits_12 : decode cX9_bits 12 = .ok (.iadd, 1) := by decide +kernel
theorem dX9_bits_13 : decode cX9_bits 13 = .ok (.istore_n 1, 1) := by decide +kernel
theorem dX9_bits_14 : decode cX9_bits 14 = .ok (.iload_n 2, 1) := by decide +kernel
theorem dX9_bits_15 : decode cX9_bits 15 = .ok (.iconst 1, 1) := by decide +kernel
theorem dX9_bits_16 : decode cX9_bits 16 = .ok (.ishr, 1) := by decide +kernel
theorem dX9_bits_17 : decode cX9_bits 17 = .ok (.istore_n 2, 1) := by decide +kernel
theorem dX9_bits_18 : decode cX9_bits 18 = .ok (.goto (-14), 3) := by decide +kernel
theorem dX9_bits_21 : decode cX9_bits 21 = .ok (.iload_n 1, 1) := by decide +kernel
theorem dX9_bits_22 : decode cX9_bits 22 = .ok (.ireturn, 1) := by decide +kernel
theorem dX9_allows_0 : decode cX9_allows 0 = .ok (.iload_n 0, 1) := by decide +kernel
theorem dX9_allows_1 : decode cX9_allows 1 = .ok (.ifCond .eq 12, 3) := by decide +kernel
theorem dX9_allows_4 : decode cX9_allows 4 = .ok (.iload_n 0, 1) := by decide +kernel
theorem dX9_allows_5 : decode cX9_allows 5 = .ok (.iconst 2, 1) := by decide +kernel
theorem dX9_allows_6 : decode cX9_allows 6 = .ok (.if_icmp .eq 7, 3) := by decide +kernel
theorem dX9_allows_9 : decode cX9_allows 9 = .ok (.iconst 1, 1) := by decide +kernel
theorem dX9_allows_10 : decode cX9_allows 10 = .ok (.goto 4, 3) := by decide +kernel
theorem dX9_allows_13 : decode cX9_allows 13 = .ok (.iconst 0, 1) := by decide +kernel
theorem dX9_allows_14 : decode cX9_allows 14 = .ok (.ireturn, 1) := by decide +kernel
theorem dX9_speaksDays_0 : decode cX9_speaksDays 0 = .ok (.aload_n 0, 1) := by decide +kernel
theorem dX9_speaksDays_1 : decode cX9_speaksDays 1 = .ok (.iload_n 1, 1) := by decide +kernel
theorem dX9_speaksDays_2 : decode cX9_speaksDays 2 = .ok (.iconst 3, 1) := by decide +kernel
theorem dX9_speaksDays_3 : decode cX9_speaksDays 3 = .ok (.invokevirtual 101, 3) := by decide +kernel
theorem dX9_speaksDays_6 : decode cX9_speaksDays 6 = .ok (.aload_n 0, 1) := by decide +kernel
theorem dX9_speaksDays_7 : decode cX9_speaksDays 7 = .ok (.iload_n 1, 1) := by decide +kernel
theorem dX9_speaksDays_8 : decode cX9_speaksDays 8 = .ok (.iconst 2, 1) := by decide +kernel
theorem dX9_speaksDays_9 : decode cX9_speaksDays 9 = .ok (.invokevirtual 101, 3) := by decide +kernel
theorem dX9_speaksDays_12 : decode cX9_speaksDays 12 = .ok (.isub, 1) := by decide +kernel
theorem dX9_speaksDays_13 : decode cX9_speaksDays 13 = .ok (.istore_n 2, 1) := by decide +kernel
theorem dX9_speaksDays_14 : decode cX9_speaksDays 14 = .ok (.aload_n 0, 1) := by decide +kernel
theorem dX9_speaksDays_15 : decode cX9_speaksDays 15 = .ok (.iload_n 1, 1) := by decide +kernel
theorem dX9_speaksDays_16 : decode cX9_speaksDays 16 = .ok (.iconst 0, 1) := by decide +kernel
theorem dX9_speaksDays_17 : decode cX9_speaksDays 17 = .ok (.invokevirtual 101, 3) := by decide +kernel
theorem dX9_speaksDays_20 : decode cX9_speaksDays 20 = .ok (.iconst 2, 1) := by decide +kernel
theorem dX9_speaksDays_21 : decode cX9_speaksDays 21 = .ok (.if_icmp .ne 11, 3) := by decide +kernel
theorem dX9_speaksDays_24 : decode cX9_speaksDays 24 = .ok (.iload_n 2, 1) := by decide +kernel
theorem dX9_speaksDays_25 : decode cX9_speaksDays 25 = .ok (.iconst 1, 1) := by decide +kernel
theorem dX9_speaksDays_26 : decode cX9_speaksDays 26 = .ok (.iadd, 1) := by decide +kernel
theorem dX9_speaksDays_27 : decode cX9_speaksDays 27 = .ok (.iconst 2, 1) := by decide +kernel
theorem dX9_speaksDays_28 : decode cX9_speaksDays 28 = .ok (.idiv, 1) := by decide +kernel
theorem dX9_speaksDays_29 : decode cX9_speaksDays 29 = .ok (.goto 4, 3) := by decide +kernel
theorem dX9_speaksDays_32 : decode cX9_speaksDays 32 = .ok (.iload_n 2, 1) := by decide +kernel
theorem dX9_speaksDays_33 : decode cX9_speaksDays 33 = .ok (.ireturn, 1) := by decide +kernel
theorem dX9_speaks_0 : decode cX9_speaks 0 = .ok (.aload_n 0, 1) := by decide +kernel
theorem dX9_speaks_1 : decode cX9_speaks 1 = .ok (.iload_n 1, 1) := by decide +kernel
theorem dX9_speaks_2 : decode cX9_speaks 2 = .ok (.iconst 0, 1) := by decide +kernel
theorem dX9_speaks_3 : decode cX9_speaks 3 = .ok (.invokevirtual 101, 3) := by decide +kernel
theorem dX9_speaks_6 : decode cX9_speaks 6 = .ok (.istore 7, 2) := by decide +kernel
theorem dX9_speaks_8 : decode cX9_speaks 8 = .ok (.iload 7, 2) := by decide +kernel
theorem dX9_speaks_10 : decode cX9_speaks 10 = .ok (.iconst 3, 1) := by decide +kernel
theorem dX9_speaks_11 : decode cX9_speaks 11 = .ok (.if_icmp .eq 9, 3) := by decide +kernel
theorem dX9_speaks_14 : decode cX9_speaks 14 = .ok (.iload 7, 2) := by decide +kernel
theorem dX9_speaks_16 : decode cX9_speaks 16 = .ok (.iconst 5, 1) := by decide +kernel
theorem dX9_speaks_17 : decode cX9_speaks 17 = .ok (.if_icmp .ne 13, 3) := by decide +kernel
theorem dX9_speaks_20 : decode cX9_speaks 20 = .ok (.aload_n 0, 1) := by decide +kernel
theorem dX9_speaks_21 : decode cX9_speaks 21 = .ok (.iload_n 1, 1) := by decide +kernel
theorem dX9_speaks_22 : decode cX9_speaks 22 = .ok (.iconst 4, 1) := by decide +kernel
theorem dX9_speaks_23 : decode cX9_speaks 23 = .ok (.invokevirtual 101, 3) := by decide +kernel
theorem dX9_speaks_26 : decode cX9_speaks 26 = .ok (.iload_n 2, 1) := by decide +kernel
theorem dX9_speaks_27 : decode cX9_speaks 27 = .ok (.if_icmp .ne 7, 3) := by decide +kernel
theorem dX9_speaks_30 : decode cX9_speaks 30 = .ok (.iconst 1, 1) := by decide +kernel
theorem dX9_speaks_31 : decode cX9_speaks 31 = .ok (.goto 4, 3) := by decide +kernel
theorem dX9_speaks_34 : decode cX9_speaks 34 = .ok (.iconst 0, 1) := by decide +kernel
theorem dX9_speaks_35 : decode cX9_speaks 35 = .ok (.istore 8, 2) := by decide +kernel
theorem dX9_speaks_37 : decode cX9_speaks 37 = .ok (.iload 4, 2) := by decide +kernel
theorem dX9_speaks_39 : decode cX9_speaks 39 = .ok (.aload_n 0, 1) := by decide +kernel
theorem dX9_speaks_40 : decode cX9_speaks 40 = .ok (.iload_n 1, 1) := by decide +kernel
theorem dX9_speaks_41 : decode cX9_speaks 41 = .ok (.iconst 2, 1) := by decide +kernel
theorem dX9_speaks_42 : decode cX9_speaks 42 = .ok (.invokevirtual 101, 3) := by decide +kernel
theorem dX9_speaks_45 : decode cX9_speaks 45 = .ok (.if_icmp .lt 24, 3) := by decide +kernel
theorem dX9_speaks_48 : decode cX9_speaks 48 = .ok (.iload 4, 2) := by decide +kernel
theorem dX9_speaks_50 : decode cX9_speaks 50 = .ok (.aload_n 0, 1) := by decide +kernel
theorem dX9_speaks_51 : decode cX9_speaks 51 = .ok (.iload_n 1, 1) := by decide +kernel
theorem dX9_speaks_52 : decode cX9_speaks 52 = .ok (.iconst 2, 1) := by decide +kernel
theorem dX9_speaks_53 : decode cX9_speaks 53 = .ok (.invokevirtual 101, 3) := by decide +kernel
theorem dX9_speaks_56 : decode cX9_speaks 56 = .ok (.aload_n 0, 1) := by decide +kernel
theorem dX9_speaks_57 : decode cX9_speaks 57 = .ok (.iload_n 1, 1) := by decide +kernel
theorem dX9_speaks_58 : decode cX9_speaks 58 = .ok (.invokevirtual 105, 3) := by decide +kernel
theorem dX9_speaks_61 : decode cX9_speaks 61 = .ok (.iadd, 1) := by decide +kernel
theorem dX9_speaks_62 : decode cX9_speaks 62 = .ok (.if_icmp .ge 7, 3) := by decide +kernel
theorem dX9_speaks_65 : decode cX9_speaks 65 = .ok (.iconst 1, 1) := by decide +kernel
theorem dX9_speaks_66 : decode cX9_speaks 66 = .ok (.goto 4, 3) := by decide +kernel
theorem dX9_speaks_69 : decode cX9_speaks 69 = .ok (.iconst 0, 1) := by decide +kernel
theorem dX9_speaks_70 : decode cX9_speaks 70 = .ok (.istore 9, 2) := by decide +kernel
theorem dX9_speaks_72 : decode cX9_speaks 72 = .ok (.iload 7, 2) := by decide +kernel
theorem dX9_speaks_74 : decode cX9_speaks 74 = .ok (.iconst 4, 1) := by decide +kernel
theorem dX9_speaks_75 : decode cX9_speaks 75 = .ok (.if_icmp .ne 9, 3) := by decide +kernel
theorem dX9_speaks_78 : decode cX9_speaks 78 = .ok (.iload 5, 2) := by decide +kernel
theorem dX9_speaks_80 : decode cX9_speaks 80 = .ok (.iconst 1, 1) := by decide +kernel
theorem dX9_speaks_81 : decode cX9_speaks 81 = .ok (.if_icmp .ne 19, 3) := by decide +kernel
theorem dX9_speaks_84 : decode cX9_speaks 84 = .ok (.iload 7, 2) := by decide +kernel
theorem dX9_speaks_86 : decode cX9_speaks 86 = .ok (.iconst 5, 1) := by decide +kernel
theorem dX9_speaks_87 : decode cX9_speaks 87 = .ok (.if_icmp .ne 9, 3) := by decide +kernel
theorem dX9_speaks_90 : decode cX9_speaks 90 = .ok (.iload 6, 2) := by decide +kernel
theorem dX9_speaks_92 : decode cX9_speaks 92 = .ok (.iconst 1, 1) := by decide +kernel
theorem dX9_speaks_93 : decode cX9_speaks 93 = .ok (.if_icmp .ne 7, 3) := by decide +kernel
theorem dX9_speaks_96 : decode cX9_speaks 96 = .ok (.iconst 1, 1) := by decide +kernel
theorem dX9_speaks_97 : decode cX9_speaks 97 = .ok (.goto 4, 3) := by decide +kernel
theorem dX9_speaks_100 : decode cX9_speaks 100 = .ok (.iconst 0, 1) := by decide +kernel
theorem dX9_speaks_101 : decode cX9_speaks 101 = .ok (.istore 10, 2) := by decide +kernel
theorem dX9_speaks_103 : decode cX9_speaks 103 = .ok (.aload_n 0, 1) := by decide +kernel
theorem dX9_speaks_104 : decode cX9_speaks 104 = .ok (.iload_n 1, 1) := by decide +kernel
theorem dX9_speaks_105 : decode cX9_speaks 105 = .ok (.iconst 1, 1) := by decide +kernel
theorem dX9_speaks_106 : decode cX9_speaks 106 = .ok (.invokevirtual 101, 3) := by decide +kernel
theorem dX9_speaks_109 : decode cX9_speaks 109 = .ok (.iload_n 3, 1) := by decide +kernel
theorem dX9_speaks_110 : decode cX9_speaks 110 = .ok (.if_icmp .ne 22, 3) := by decide +kernel
theorem dX9_speaks_113 : decode cX9_speaks 113 = .ok (.iload 8, 2) := by decide +kernel
theorem dX9_speaks_115 : decode cX9_speaks 115 = .ok (.ifCond .eq 17, 3) := by decide +kernel
theorem dX9_speaks_118 : decode cX9_speaks 118 = .ok (.iload 9, 2) := by decide +kernel
theorem dX9_speaks_120 : decode cX9_speaks 120 = .ok (.ifCond .eq 12, 3) := by decide +kernel
theorem dX9_speaks_123 : decode cX9_speaks 123 = .ok (.iload 10, 2) := by decide +kernel
theorem dX9_speaks_125 : decode cX9_speaks 125 = .ok (.ifCond .eq 7, 3) := by decide +kernel
theorem dX9_speaks_128 : decode cX9_speaks 128 = .ok (.iconst 1, 1) := by decide +kernel
theorem dX9_speaks_129 : decode cX9_speaks 129 = .ok (.goto 4, 3) := by decide +kernel
theorem dX9_speaks_132 : decode cX9_speaks 132 = .ok (.iconst 0, 1) := by decide +kernel
theorem dX9_speaks_133 : decode cX9_speaks 133 = .ok (.ireturn, 1) := by decide +kernel
theorem dX9_of_0 : decode cX9_of 0 = .ok (.aload_n 0, 1) := by decide +kernel
theorem dX9_of_1 : decode cX9_of 1 = .ok (.iload_n 1, 1) := by decide +kernel
theorem dX9_of_2 : decode cX9_of 2 = .ok (.invokevirtual 95, 3) := by decide +kernel
theorem dX9_of_5 : decode cX9_of 5 = .ok (.ifCond .eq 15, 3) := by decide +kernel
theorem dX9_of_8 : decode cX9_of 8 = .ok (.iload_n 2, 1) := by decide +kernel
theorem dX9_of_9 : decode cX9_of 9 = .ok (.i2l, 1) := by decide +kernel
theorem dX9_of_10 : decode cX9_of 10 = .ok (.lconst 0, 1) := by decide +kernel
theorem dX9_of_11 : decode cX9_of 11 = .ok (.ldc2_w 108, 3) := by decide +kernel
theorem dX9_of_14 : decode cX9_of 14 = .ok (.invokestatic 43, 3) := by decide +kernel
theorem dX9_of_17 : decode cX9_of 17 = .ok (.ifCond .ne 10, 3) := by decide +kernel
theorem dX9_of_20 : decode cX9_of 20 = .ok (.aload_n 0, 1) := by decide +kernel
theorem dX9_of_21 : decode cX9_of 21 = .ok (.bipush (-2), 2) := by decide +kernel
theorem dX9_of_23 : decode cX9_of 23 = .ok (.invokevirtual 62, 3) := by decide +kernel
theorem dX9_of_26 : decode cX9_of 26 = .ok (.ireturn, 1) := by decide +kernel
theorem dX9_of_27 : decode cX9_of 27 = .ok (.iload_n 2, 1) := by decide +kernel
theorem dX9_of_28 : decode cX9_of 28 = .ok (.iconst 5, 1) := by decide +kernel
theorem dX9_of_29 : decode cX9_of 29 = .ok (.if_icmp .ne 23, 3) := by decide +kernel
theorem dX9_of_32 : decode cX9_of 32 = .ok (.aload_n 0, 1) := by decide +kernel
theorem dX9_of_33 : decode cX9_of 33 = .ok (.iload_n 1, 1) := by decide +kernel
theorem dX9_of_34 : decode cX9_of 34 = .ok (.iconst 0, 1) := by decide +kernel
theorem dX9_of_35 : decode cX9_of 35 = .ok (.invokevirtual 101, 3) := by decide +kernel
theorem dX9_of_38 : decode cX9_of 38 = .ok (.invokestatic 110, 3) := by decide +kernel
theorem dX9_of_41 : decode cX9_of 41 = .ok (.ifCond .eq 7, 3) := by decide +kernel
theorem dX9_of_44 : decode cX9_of 44 = .ok (.iconst 1, 1) := by decide +kernel
theorem dX9_of_45 : decode cX9_of 45 = .ok (.goto 27, 3) := by decide +kernel
theorem dX9_of_48 : decode cX9_of 48 = .ok (.iconst 0, 1) := by decide +kernel
theorem dX9_of_49 : decode cX9_of 49 = .ok (.goto 23, 3) := by decide +kernel
theorem dX9_of_52 : decode cX9_of 52 = .ok (.iload_n 2, 1) := by decide +kernel
theorem dX9_of_53 : decode cX9_of 53 = .ok (.bipush 6, 2) := by decide +kernel
theorem dX9_of_55 : decode cX9_of 55 = .ok (.if_icmp .ne 11, 3) := by decide +kernel
theorem dX9_of_58 : decode cX9_of 58 = .ok (.aload_n 0, 1) := by decide +kernel
theorem dX9_of_59 : decode cX9_of 59 = .ok (.iload_n 1, 1) := by decide +kernel
theorem dX9_of_60 : decode cX9_of 60 = .ok (.invokevirtual 105, 3) := by decide +kernel
theorem dX9_of_63 : decode cX9_of 63 = .ok (.goto 9, 3) := by decide +kernel
theorem dX9_of_66 : decode cX9_of 66 = .ok (.aload_n 0, 1) := by decide +kernel
theorem dX9_of_67 : decode cX9_of 67 = .ok (.iload_n 1, 1) := by decide +kernel
theorem dX9_of_68 : decode cX9_of 68 = .ok (.iload_n 2, 1) := by decide +kernel
theorem dX9_of_69 : decode cX9_of 69 = .ok (.invokevirtual 101, 3) := by decide +kernel
theorem dX9_of_72 : decode cX9_of 72 = .ok (.ireturn, 1) := by decide +kernel
theorem dX9_hear_0 : decode cX9_hear 0 = .ok (.aload_n 0, 1) := by decide +kernel
theorem dX9_hear_1 : decode cX9_hear 1 = .ok (.iconst (-1), 1) := by decide +kernel
theorem dX9_hear_2 : decode cX9_hear 2 = .ok (.putfield 113, 3) := by decide +kernel
theorem dX9_hear_5 : decode cX9_hear 5 = .ok (.aload_n 0, 1) := by decide +kernel
theorem dX9_hear_6 : decode cX9_hear 6 = .ok (.iconst (-1), 1) := by decide +kernel
theorem dX9_hear_7 : decode cX9_hear 7 = .ok (.putfield 117, 3) := by decide +kernel
theorem dX9_hear_10 : decode cX9_hear 10 = .ok (.aload_n 0, 1) := by decide +kernel
theorem dX9_hear_11 : decode cX9_hear 11 = .ok (.iconst (-1), 1) := by decide +kernel
theorem dX9_hear_12 : decode cX9_hear 12 = .ok (.putfield 120, 3) := by decide +kernel
theorem dX9_hear_15 : decode cX9_hear 15 = .ok (.aload_n 0, 1) := by decide +kernel
theorem dX9_hear_16 : decode cX9_hear 16 = .ok (.iconst (-1), 1) := by decide +kernel
theorem dX9_hear_17 : decode cX9_hear 17 = .ok (.putfield 123, 3) := by decide +kernel
theorem dX9_hear_20 : decode cX9_hear 20 = .ok (.aload_n 0, 1) := by decide +kernel
theorem dX9_hear_21 : decode cX9_hear 21 = .ok (.iconst 0, 1) := by decide +kernel
theorem dX9_hear_22 : decode cX9_hear 22 = .ok (.putfield 126, 3) := by decide +kernel
theorem dX9_hear_25 : decode cX9_hear 25 = .ok (.aload_n 0, 1) := by decide +kernel
theorem dX9_hear_26 : decode cX9_hear 26 = .ok (.iconst 0, 1) := by decide +kernel
theorem dX9_hear_27 : decode cX9_hear 27 = .ok (.putfield 129, 3) := by decide +kernel
theorem dX9_hear_30 : decode cX9_hear 30 = .ok (.iconst 0, 1) := by decide +kernel
theorem dX9_hear_31 : decode cX9_hear 31 = .ok (.istore 7, 2) := by decide +kernel
theorem dX9_hear_33 : decode cX9_hear 33 = .ok (.iload 7, 2) := by decide +kernel
theorem dX9_hear_35 : decode cX9_hear 35 = .ok (.aload_n 0, 1) := by decide +kernel
theorem dX9_hear_36 : decode cX9_hear 36 = .ok (.invokevirtual 47, 3) := by decide +kernel
theorem dX9_hear_39 : decode cX9_hear 39 = .ok (.if_icmp .ge 140, 3) := by decide +kernel
theorem dX9_hear_42 : decode cX9_hear 42 = .ok (.iload 6, 2) := by decide +kernel
theorem dX9_hear_44 : decode cX9_hear 44 = .ok (.iload 7, 2) := by decide +kernel
theorem dX9_hear_46 : decode cX9_hear 46 = .ok (.ishr, 1) := by decide +kernel
theorem dX9_hear_47 : decode cX9_hear 47 = .ok (.iconst 1, 1) := by decide +kernel
theorem dX9_hear_48 : decode cX9_hear 48 = .ok (.iand, 1) := by decide +kernel
theorem dX9_hear_49 : decode cX9_hear 49 = .ok (.ifCond .ne 124, 3) := by decide +kernel
theorem dX9_hear_52 : decode cX9_hear 52 = .ok (.aload_n 0, 1) := by decide +kernel
theorem dX9_hear_53 : decode cX9_hear 53 = .ok (.iload 7, 2) := by decide +kernel
theorem dX9_hear_55 : decode cX9_hear 55 = .ok (.iload_n 1, 1) := by decide +kernel
theorem dX9_hear_56 : decode cX9_hear 56 = .ok (.iload_n 2, 1) := by decide +kernel
theorem dX9_hear_57 : decode cX9_hear 57 = .ok (.iload_n 3, 1) := by decide +kernel
theorem dX9_hear_58 : decode cX9_hear 58 = .ok (.iload 4, 2) := by decide +kernel
theorem dX9_hear_60 : decode cX9_hear 60 = .ok (.iload 5, 2) := by decide +kernel
theorem dX9_hear_62 : decode cX9_hear 62 = .ok (.invokevirtual 132, 3) := by decide +kernel
theorem dX9_hear_65 : decode cX9_hear 65 = .ok (.ifCond .eq 108, 3) := by decide +kernel
theorem dX9_hear_68 : decode cX9_hear 68 = .ok (.aload_n 0, 1) := by decide +kernel
theorem dX9_hear_69 : decode cX9_hear 69 = .ok (.aload_n 0, 1) := by decide +kernel
theorem dX9_hear_70 : decode cX9_hear 70 = .ok (.getfield 113, 3) := by decide +kernel
theorem dX9_hear_73 : decode cX9_hear 73 = .ok (.iconst (-1), 1) := by decide +kernel
theorem dX9_hear_74 : decode cX9_hear 74 = .ok (.if_icmp .ne 8, 3) := by decide +kernel
theorem dX9_hear_77 : decode cX9_hear 77 = .ok (.iload 7, 2) := by decide +kernel
theorem dX9_hear_79 : decode cX9_hear 79 = .ok (.goto 7, 3) := by decide +kernel
theorem dX9_hear_82 : decode cX9_hear 82 = .ok (.aload_n 0, 1) := by decide +kernel
theorem dX9_hear_83 : decode cX9_hear 83 = .ok (.getfield 113, 3) := by decide +kernel
theorem dX9_hear_86 : decode cX9_hear 86 = .ok (.putfield 113, 3) := by decide +kernel
theorem dX9_hear_89 : decode cX9_hear 89 = .ok (.aload_n 0, 1) := by decide +kernel
theorem dX9_hear_90 : decode cX9_hear 90 = .ok (.iload 7, 2) := by decide +kernel
theorem dX9_hear_92 : decode cX9_hear 92 = .ok (.putfield 117, 3) := by decide +kernel
theorem dX9_hear_95 : decode cX9_hear 95 = .ok (.aload_n 0, 1) := by decide +kernel
theorem dX9_hear_96 : decode cX9_hear 96 = .ok (.iload 7, 2) := by decide +kernel
theorem dX9_hear_98 : decode cX9_hear 98 = .ok (.iconst 0, 1) := by decide +kernel
theorem dX9_hear_99 : decode cX9_hear 99 = .ok (.invokevirtual 101, 3) := by decide +kernel
theorem dX9_hear_102 : decode cX9_hear 102 = .ok (.invokestatic 110, 3) := by decide +kernel
theorem dX9_hear_105 : decode cX9_hear 105 = .ok (.ifCond .eq 37, 3) := by decide +kernel
theorem dX9_hear_108 : decode cX9_hear 108 = .ok (.aload_n 0, 1) := by decide +kernel
theorem dX9_hear_109 : decode cX9_hear 109 = .ok (.aload_n 0, 1) := by decide +kernel
theorem dX9_hear_110 : decode cX9_hear 110 = .ok (.getfield 120, 3) := by decide +kernel
theorem dX9_hear_113 : decode cX9_hear 113 = .ok (.iconst (-1), 1) := by decide +kernel
theorem dX9_hear_114 : decode cX9_hear 114 = .ok (.if_icmp .ne 8, 3) := by decide +kernel
theorem dX9_hear_117 : decode cX9_hear 117 = .ok (.iload 7, 2) := by decide +kernel
theorem dX9_hear_119 : decode cX9_hear 119 = .ok (.goto 7, 3) := by decide +kernel
theorem dX9_hear_122 : decode cX9_hear 122 = .ok (.aload_n 0, 1) := by decide +kernel
theorem dX9_hear_123 : decode cX9_hear 123 = .ok (.getfield 120, 3) := by decide +kernel
theorem dX9_hear_126 : decode cX9_hear 126 = .ok (.putfield 120, 3) := by decide +kernel
theorem dX9_hear_129 : decode cX9_hear 129 = .ok (.aload_n 0, 1) := by decide +kernel
theorem dX9_hear_130 : decode cX9_hear 130 = .ok (.dup, 1) := by decide +kernel
theorem dX9_hear_131 : decode cX9_hear 131 = .ok (.getfield 126, 3) := by decide +kernel
theorem dX9_hear_134 : decode cX9_hear 134 = .ok (.iconst 1, 1) := by decide +kernel
theorem dX9_hear_135 : decode cX9_hear 135 = .ok (.iadd, 1) := by decide +kernel
theorem dX9_hear_136 : decode cX9_hear 136 = .ok (.putfield 126, 3) := by decide +kernel
theorem dX9_hear_139 : decode cX9_hear 139 = .ok (.goto 34, 3) := by decide +kernel
theorem dX9_hear_142 : decode cX9_hear 142 = .ok (.aload_n 0, 1) := by decide +kernel
theorem dX9_hear_143 : decode cX9_hear 143 = .ok (.aload_n 0, 1) := by decide +kernel
theorem dX9_hear_144 : decode cX9_hear 144 = .ok (.getfield 123, 3) := by decide +kernel
theorem dX9_hear_147 : decode cX9_hear 147 = .ok (.iconst (-1), 1) := by decide +kernel
theorem dX9_hear_148 : decode cX9_hear 148 = .ok (.if_icmp .ne 8, 3) := by decide +kernel
theorem dX9_hear_151 : decode cX9_hear 151 = .ok (.iload 7, 2) := by decide +kernel
theorem dX9_hear_153 : decode cX9_hear 153 = .ok (.goto 7, 3) := by decide +kernel
theorem dX9_hear_156 : decode cX9_hear 156 = .ok (.aload_n 0, 1) := by decide +kernel
theorem dX9_hear_157 : decode cX9_hear 157 = .ok (.getfield 123, 3) := by decide +kernel
theorem dX9_hear_160 : decode cX9_hear 160 = .ok (.putfield 123, 3) := by decide +kernel
theorem dX9_hear_163 : decode cX9_hear 163 = .ok (.aload_n 0, 1) := by decide +kernel
theorem dX9_hear_164 : decode cX9_hear 164 = .ok (.dup, 1) := by decide +kernel
theorem dX9_hear_165 : decode cX9_hear 165 = .ok (.getfield 129, 3) := by decide +kernel
theorem dX9_hear_168 : decode cX9_hear 168 = .ok (.iconst 1, 1) := by decide +kernel
theorem dX9_hear_169 : decode cX9_hear 169 = .ok (.iadd, 1) := by decide +kernel
theorem dX9_hear_170 : decode cX9_hear 170 = .ok (.putfield 129, 3) := by decide +kernel
theorem dX9_hear_173 : decode cX9_hear 173 = .ok (.iinc 7 1, 3) := by decide +kernel
theorem dX9_hear_176 : decode cX9_hear 176 = .ok (.goto (-143), 3) := by decide +kernel
theorem dX9_hear_179 : decode cX9_hear 179 = .ok (.return_, 1) := by decide +kernel
theorem dX9_decides_0 : decode cX9_decides 0 = .ok (.iload_n 1, 1) := by decide +kernel
theorem dX9_decides_1 : decode cX9_decides 1 = .ok (.tableswitch 57 0 2 #[27, 32, 37], 27) := by decide +kernel
theorem dX9_decides_28 : decode cX9_decides 28 = .ok (.aload_n 0, 1) := by decide +kernel
theorem dX9_decides_29 : decode cX9_decides 29 = .ok (.getfield 113, 3) := by decide +kernel
theorem dX9_decides_32 : decode cX9_decides 32 = .ok (.ireturn, 1) := by decide +kernel
theorem dX9_decides_33 : decode cX9_decides 33 = .ok (.aload_n 0, 1) := by decide +kernel
theorem dX9_decides_34 : decode cX9_decides 34 = .ok (.getfield 117, 3) := by decide +kernel
theorem dX9_decides_37 : decode cX9_decides 37 = .ok (.ireturn, 1) := by decide +kernel
theorem dX9_decides_38 : decode cX9_decides 38 = .ok (.aload_n 0, 1) := by decide +kernel
theorem dX9_decides_39 : decode cX9_decides 39 = .ok (.getfield 120, 3) := by decide +kernel
theorem dX9_decides_42 : decode cX9_decides 42 = .ok (.iconst (-1), 1) := by decide +kernel
theorem dX9_decides_43 : decode cX9_decides 43 = .ok (.if_icmp .eq 10, 3) := by decide +kernel
theorem dX9_decides_46 : decode cX9_decides 46 = .ok (.aload_n 0, 1) := by decide +kernel
theorem dX9_decides_47 : decode cX9_decides 47 = .ok (.getfield 120, 3) := by decide +kernel
theorem dX9_decides_50 : decode cX9_decides 50 = .ok (.goto 7, 3) := by decide +kernel
theorem dX9_decides_53 : decode cX9_decides 53 = .ok (.aload_n 0, 1) := by decide +kernel
theorem dX9_decides_54 : decode cX9_decides 54 = .ok (.getfield 113, 3) := by decide +kernel
theorem dX9_decides_57 : decode cX9_decides 57 = .ok (.ireturn, 1) := by decide +kernel
theorem dX9_decides_58 : decode cX9_decides 58 = .ok (.aload_n 0, 1) := by decide +kernel
theorem dX9_decides_59 : decode cX9_decides 59 = .ok (.getfield 126, 3) := by decide +kernel
theorem dX9_decides_62 : decode cX9_decides 62 = .ok (.aload_n 0, 1) := by decide +kernel
theorem dX9_decides_63 : decode cX9_decides 63 = .ok (.getfield 129, 3) := by decide +kernel
theorem dX9_decides_66 : decode cX9_decides 66 = .ok (.if_icmp .le 10, 3) := by decide +kernel
theorem dX9_decides_69 : decode cX9_decides 69 = .ok (.aload_n 0, 1) := by decide +kernel
theorem dX9_decides_70 : decode cX9_decides 70 = .ok (.getfield 120, 3) := by decide +kernel
theorem dX9_decides_73 : decode cX9_decides 73 = .ok (.goto 7, 3) := by decide +kernel
theorem dX9_decides_76 : decode cX9_decides 76 = .ok (.aload_n 0, 1) := by decide +kernel
theorem dX9_decides_77 : decode cX9_decides 77 = .ok (.getfield 123, 3) := by decide +kernel
theorem dX9_decides_80 : decode cX9_decides 80 = .ok (.ireturn, 1) := by decide +kernel
theorem dX9_decidesIn_0 : decode cX9_decidesIn 0 = .ok (.aload_n 0, 1) := by decide +kernel
theorem dX9_decidesIn_1 : decode cX9_decidesIn 1 = .ok (.iload_n 1, 1) := by decide +kernel
theorem dX9_decidesIn_2 : decode cX9_decidesIn 2 = .ok (.iload_n 2, 1) := by decide +kernel
theorem dX9_decidesIn_3 : decode cX9_decidesIn 3 = .ok (.iload_n 3, 1) := by decide +kernel
theorem dX9_decidesIn_4 : decode cX9_decidesIn 4 = .ok (.iload 4, 2) := by decide +kernel
theorem dX9_decidesIn_6 : decode cX9_decidesIn 6 = .ok (.iload 5, 2) := by decide +kernel
theorem dX9_decidesIn_8 : decode cX9_decidesIn 8 = .ok (.iload 6, 2) := by decide +kernel
theorem dX9_decidesIn_10 : decode cX9_decidesIn 10 = .ok (.invokevirtual 136, 3) := by decide +kernel
theorem dX9_decidesIn_13 : decode cX9_decidesIn 13 = .ok (.aload_n 0, 1) := by decide +kernel
theorem dX9_decidesIn_14 : decode cX9_decidesIn 14 = .ok (.aload_n 0, 1) := by decide +kernel
theorem dX9_decidesIn_15 : decode cX9_decidesIn 15 = .ok (.getfield 7, 3) := by decide +kernel
theorem dX9_decidesIn_18 : decode cX9_decidesIn 18 = .ok (.iconst 4, 1) := by decide +kernel
theorem dX9_decidesIn_19 : decode cX9_decidesIn 19 = .ok (.iload_n 1, 1) := by decide +kernel
theorem dX9_decidesIn_20 : decode cX9_decidesIn 20 = .ok (.iadd, 1) := by decide +kernel
theorem dX9_decidesIn_21 : decode cX9_decidesIn 21 = .ok (.iaload, 1) := by decide +kernel
theorem dX9_decidesIn_22 : decode cX9_decidesIn 22 = .ok (.invokevirtual 140, 3) := by decide +kernel
theorem dX9_decidesIn_25 : decode cX9_decidesIn 25 = .ok (.ireturn, 1) := by decide +kernel
theorem dX9_isAllowed_0 : decode cX9_isAllowed 0 = .ok (.aload_n 0, 1) := by decide +kernel
theorem dX9_isAllowed_1 : decode cX9_isAllowed 1 = .ok (.iload_n 1, 1) := by decide +kernel
theorem dX9_isAllowed_2 : decode cX9_isAllowed 2 = .ok (.iload_n 2, 1) := by decide +kernel
theorem dX9_isAllowed_3 : decode cX9_isAllowed 3 = .ok (.iload_n 3, 1) := by decide +kernel
theorem dX9_isAllowed_4 : decode cX9_isAllowed 4 = .ok (.iload 4, 2) := by decide +kernel
theorem dX9_isAllowed_6 : decode cX9_isAllowed 6 = .ok (.iload 5, 2) := by decide +kernel
theorem dX9_isAllowed_8 : decode cX9_isAllowed 8 = .ok (.iload 6, 2) := by decide +kernel
theorem dX9_isAllowed_10 : decode cX9_isAllowed 10 = .ok (.invokevirtual 143, 3) := by decide +kernel
theorem dX9_isAllowed_13 : decode cX9_isAllowed 13 = .ok (.istore 7, 2) := by decide +kernel
theorem dX9_isAllowed_15 : decode cX9_isAllowed 15 = .ok (.iload 7, 2) := by decide +kernel
theorem dX9_isAllowed_17 : decode cX9_isAllowed 17 = .ok (.iconst (-1), 1) := by decide +kernel
theorem dX9_isAllowed_18 : decode cX9_isAllowed 18 = .ok (.if_icmp .eq 16, 3) := by decide +kernel
theorem dX9_isAllowed_21 : decode cX9_isAllowed 21 = .ok (.aload_n 0, 1) := by decide +kernel
theorem dX9_isAllowed_22 : decode cX9_isAllowed 22 = .ok (.iload 7, 2) := by decide +kernel
theorem dX9_isAllowed_24 : decode cX9_isAllowed 24 = .ok (.iconst 0, 1) := by decide +kernel
theorem dX9_isAllowed_25 : decode cX9_isAllowed 25 = .ok (.invokevirtual 101, 3) := by decide +kernel
theorem dX9_isAllowed_28 : decode cX9_isAllowed 28 = .ok (.invokestatic 110, 3) := by decide +kernel
theorem dX9_isAllowed_31 : decode cX9_isAllowed 31 = .ok (.ifCond .eq 7, 3) := by decide +kernel
theorem dX9_isAllowed_34 : decode cX9_isAllowed 34 = .ok (.iconst 1, 1) := by decide +kernel
theorem dX9_isAllowed_35 : decode cX9_isAllowed 35 = .ok (.goto 4, 3) := by decide +kernel
theorem dX9_isAllowed_38 : decode cX9_isAllowed 38 = .ok (.iconst 0, 1) := by decide +kernel
theorem dX9_isAllowed_39 : decode cX9_isAllowed 39 = .ok (.ireturn, 1) := by decide +kernel
theorem dX9_allowed_0 : decode cX9_allowed 0 = .ok (.aload_n 0, 1) := by decide +kernel
theorem dX9_allowed_1 : decode cX9_allowed 1 = .ok (.iload_n 1, 1) := by decide +kernel
theorem dX9_allowed_2 : decode cX9_allowed 2 = .ok (.invokevirtual 73, 3) := by decide +kernel
theorem dX9_allowed_5 : decode cX9_allowed 5 = .ok (.ifCond .eq 38, 3) := by decide +kernel
theorem dX9_allowed_8 : decode cX9_allowed 8 = .ok (.iload_n 2, 1) := by decide +kernel
theorem dX9_allowed_9 : decode cX9_allowed 9 = .ok (.invokestatic 83, 3) := by decide +kernel
theorem dX9_allowed_12 : decode cX9_allowed 12 = .ok (.ifCond .eq 31, 3) := by decide +kernel
theorem dX9_allowed_15 : decode cX9_allowed 15 = .ok (.iload_n 3, 1) := by decide +kernel
theorem dX9_allowed_16 : decode cX9_allowed 16 = .ok (.invokestatic 147, 3) := by decide +kernel
theorem dX9_allowed_19 : decode cX9_allowed 19 = .ok (.ifCond .eq 24, 3) := by decide +kernel
theorem dX9_allowed_22 : decode cX9_allowed 22 = .ok (.iload 4, 2) := by decide +kernel
theorem dX9_allowed_24 : decode cX9_allowed 24 = .ok (.iload 5, 2) := by decide +kernel
theorem dX9_allowed_26 : decode cX9_allowed 26 = .ok (.invokestatic 150, 3) := by decide +kernel
theorem dX9_allowed_29 : decode cX9_allowed 29 = .ok (.ifCond .eq 14, 3) := by decide +kernel
theorem dX9_allowed_32 : decode cX9_allowed 32 = .ok (.iload 6, 2) := by decide +kernel
theorem dX9_allowed_34 : decode cX9_allowed 34 = .ok (.i2l, 1) := by decide +kernel
theorem dX9_allowed_35 : decode cX9_allowed 35 = .ok (.lconst 0, 1) := by decide +kernel
theorem dX9_allowed_36 : decode cX9_allowed 36 = .ok (.lconst 1, 1) := by decide +kernel
theorem dX9_allowed_37 : decode cX9_allowed 37 = .ok (.invokestatic 43, 3) := by decide +kernel
theorem dX9_allowed_40 : decode cX9_allowed 40 = .ok (.ifCond .ne 10, 3) := by decide +kernel
theorem dX9_allowed_43 : decode cX9_allowed 43 = .ok (.aload_n 0, 1) := by decide +kernel
theorem dX9_allowed_44 : decode cX9_allowed 44 = .ok (.bipush (-10), 2) := by decide +kernel
theorem dX9_allowed_46 : decode cX9_allowed 46 = .ok (.invokevirtual 62, 3) := by decide +kernel
theorem dX9_allowed_49 : decode cX9_allowed 49 = .ok (.ireturn, 1) := by decide +kernel
theorem dX9_allowed_50 : decode cX9_allowed 50 = .ok (.aload_n 0, 1) := by decide +kernel
theorem dX9_allowed_51 : decode cX9_allowed 51 = .ok (.iload_n 1, 1) := by decide +kernel
theorem dX9_allowed_52 : decode cX9_allowed 52 = .ok (.iload_n 2, 1) := by decide +kernel
theorem dX9_allowed_53 : decode cX9_allowed 53 = .ok (.iload_n 3, 1) := by decide +kernel
theorem dX9_allowed_54 : decode cX9_allowed 54 = .ok (.iload 4, 2) := by decide +kernel
theorem dX9_allowed_56 : decode cX9_allowed 56 = .ok (.iload 5, 2) := by decide +kernel
theorem dX9_allowed_58 : decode cX9_allowed 58 = .ok (.iconst 0, 1) := by decide +kernel
theorem dX9_allowed_59 : decode cX9_allowed 59 = .ok (.invokevirtual 143, 3) := by decide +kernel
theorem dX9_allowed_62 : decode cX9_allowed 62 = .ok (.istore 7, 2) := by decide +kernel
theorem dX9_allowed_64 : decode cX9_allowed 64 = .ok (.iload 6, 2) := by decide +kernel
theorem dX9_allowed_66 : decode cX9_allowed 66 = .ok (.iconst 1, 1) := by decide +kernel
theorem dX9_allowed_67 : decode cX9_allowed 67 = .ok (.if_icmp .ne 8, 3) := by decide +kernel
theorem dX9_allowed_70 : decode cX9_allowed 70 = .ok (.iload 7, 2) := by decide +kernel
theorem dX9_allowed_72 : decode cX9_allowed 72 = .ok (.goto 27, 3) := by decide +kernel
theorem dX9_allowed_75 : decode cX9_allowed 75 = .ok (.iload 7, 2) := by decide +kernel
theorem dX9_allowed_77 : decode cX9_allowed 77 = .ok (.iconst (-1), 1) := by decide +kernel
theorem dX9_allowed_78 : decode cX9_allowed 78 = .ok (.if_icmp .eq 16, 3) := by decide +kernel
theorem dX9_allowed_81 : decode cX9_allowed 81 = .ok (.aload_n 0, 1) := by decide +kernel
theorem dX9_allowed_82 : decode cX9_allowed 82 = .ok (.iload 7, 2) := by decide +kernel
theorem dX9_allowed_84 : decode cX9_allowed 84 = .ok (.iconst 0, 1) := by decide +kernel
theorem dX9_allowed_85 : decode cX9_allowed 85 = .ok (.invokevirtual 101, 3) := by decide +kernel
theorem dX9_allowed_88 : decode cX9_allowed 88 = .ok (.invokestatic 110, 3) := by decide +kernel
theorem dX9_allowed_91 : decode cX9_allowed 91 = .ok (.ifCond .eq 7, 3) := by decide +kernel
theorem dX9_allowed_94 : decode cX9_allowed 94 = .ok (.iconst 1, 1) := by decide +kernel
theorem dX9_allowed_95 : decode cX9_allowed 95 = .ok (.goto 4, 3) := by decide +kernel
theorem dX9_allowed_98 : decode cX9_allowed 98 = .ok (.iconst 0, 1) := by decide +kernel
theorem dX9_allowed_99 : decode cX9_allowed 99 = .ok (.ireturn, 1) := by decide +kernel
theorem kX9_bits : zCS yX9_bits cX9_bits 3 (some .int) 1 := ⟨q4_224, q1_3, q4_225, by decide +kernel, by decide +kernel, by decide +kernel⟩
theorem kX9_allows : zCS yX9_allows cX9_allows 1 (some .boolean) 1 := ⟨q4_160, q1_3, q4_161, by decide +kernel, by decide +kernel, by decide +kernel⟩
theorem kX9_speaksDays : zCV yX9_speaksDays RX9 cX9_speaksDays 3 (some .int) 1 := ⟨q4_164, qp26, q1_3, q4_165, rfl, by decide +kernel, by decide +kernel, by decide +kernel⟩
theorem kX9_speaks : zCV yX9_speaks RX9 cX9_speaks 11 (some .boolean) 6 := ⟨q4_187, qp29, q1_3, q4_188, rfl, by decide +kernel, by decide +kernel, by decide +kernel⟩
theorem kX9_of : zCV yX9_of RX9 cX9_of 3 (some .int) 2 := ⟨q4_151, q4_152, q1_3, q4_153, rfl, by decide +kernel, by decide +kernel, by decide +kernel⟩
theorem kX9_hear : zCV yX9_hear RX9 cX9_hear 8 none 6 := ⟨q4_183, qp28, q1_3, q4_184, rfl, by decide +kernel, by decide +kernel, by decide +kernel⟩
theorem kX9_decides : zCV yX9_decides RX9 cX9_decides 2 (some .int) 1 := ⟨q4_191, qp30, q1_3, q4_192, rfl, by decide +kernel, by decide +kernel, by decide +kernel⟩
theorem kX9_decidesIn : zCV yX9_decidesIn RX9 cX9_decidesIn 7 (some .int) 6 := ⟨q4_179, qp27, q1_3, q4_180, rfl, by decide +kernel, by decide +kernel, by decide +kernel⟩
theorem kX9_isAllowed : zCV yX9_isAllowed RX9 cX9_isAllowed 8 (some .boolean) 6 := ⟨q4_209, qp32, q1_3, q4_210, rfl, by decide +kernel, by decide +kernel, by decide +kernel⟩
theorem kX9_allowed : zCV yX9_allowed RX9 cX9_allowed 8 (some .int) 6 := ⟨q4_167, q4_168, q1_3, q4_169, rfl, by decide +kernel, by decide +kernel, by decide +kernel⟩
set_option maxHeartbeats 4000000 in
set_option maxRecDepth 100000 in
theorem c_X9_bits (l : Launch) (g : zG) (k : Nat) (X : va_W) (hk : k < 256) : Met l yX9_bits (Cond.code yX9_bits cX9_bits 3 (some .int) :: TBL) { frames := 0, cells := 0, slots := 0, locals := 0 } (zPc [.int (nI k)] g (X)) (zQi g (fun r ws => r = nI (pop k) ∧ ws = X)) 0 0 (zA (gz g)) := by
  refine z_start (by decide +kernel) rfl (Nat.le_of_ble_eq_true rfl) ?_
  intro p e s m args below meth c ls hE hr hnm hB hl
  have hl : lv_has ls 3 [(0, .int (nI k))] := hl
  revert hB
  generalize s.heap = H
  generalize ([] : List Loc) = locs
  intro hB
  refine lv_iconst (v := nI 0) hE.x hE.b dX9_bits_0 rfl ?_
  refine lv_istore_n (lv' := [(1, .int (nI 0)), (0, .int (nI k))]) hE.x hE.b dX9_bits_1 rfl hl (by decide) rfl (fun ls hl => ?_)
  refine lv_iload_n hE.x hE.b dX9_bits_2 rfl (lv_at hl 1 rfl) ?_
  refine lv_istore_n (lv' := [(2, .int (nI k)), (1, .int (nI 0)), (0, .int (nI k))]) hE.x hE.b dX9_bits_3 rfl hl (by decide) rfl (fun ls hl => ?_)
  have k4 : ∀ (fu : Nat) (i : Nat) (j : Nat) (d : Nat) (H : Heap) (locs : List Loc) (ls : Array Slot), j < fu → (d ≤ 8) → (j < 2 ^ d) → (i + popF d j = pop k) → zB g s (X) H locs → lv_has ls 3 [(2, .int (nI j)), (1, .int (nI i)), (0, .int (nI k))] → W p l e { frames := 0, cells := 0, slots := 0, locals := 0 } s m args below meth c H locs 0 0 (MQ below (zQi g (fun r ws => r = nI (pop k) ∧ ws = X)) args s 0 0 (zA (gz g))) (F0 m 4 ls []) := by
    intro fu
    induction fu with
    | zero => intro i j d H locs ls hfu hd hj hp hB hl; exact absurd hfu (Nat.not_lt_zero _)
    | succ fu ih4 =>
      intro i j d H locs ls hfu hd hj hp hB hl
      have hj31 : j < 2 ^ 31 := by have := Nat.pow_le_pow_right (n := 2) (by omega) hd; omega
      refine lv_iload_n hE.x hE.b dX9_bits_4 rfl (lv_at hl 0 rfl) ?_
      refine z_le0 (tgt := 21) (X := ((j : Nat) : Int)) hE dX9_bits_5 (by decide) (nI_toInt (n := j) (by omega)) (fun c_1 => ?_) (fun c_1 => ?_)
      · refine lv_iload_n hE.x hE.b dX9_bits_21 rfl (lv_at hl 1 rfl) ?_
        exact z_iret (v := (nI i)) (ws := X) hE hB hr (⟨by rw [show j = 0 by omega, popF_0] at hp; rw [← hp]; rfl, rfl⟩) dX9_bits_22
      · refine lv_iload_n hE.x hE.b dX9_bits_8 rfl (lv_at hl 1 rfl) ?_
        refine lv_iload_n hE.x hE.b dX9_bits_9 rfl (lv_at hl 0 rfl) ?_
        refine lv_iconst (v := nI 1) hE.x hE.b dX9_bits_10 rfl ?_
        refine lv_iand hE.x hE.b dX9_bits_11 ?_
        refine z_top (y := (nI (j % 2))) (and1_nI (by have := Nat.pow_le_pow_right (n := 2) (by omega) hd; omega)) ?_
        refine z_iaddN hE dX9_bits_12 ?_
        refine lv_istore_n (lv' := [(1, .int (nI (i + (j % 2)))), (2, .int (nI j)), (0, .int (nI k))]) hE.x hE.b dX9_bits_13 rfl hl (by decide) rfl (fun ls hl => ?_)
        refine lv_iload_n hE.x hE.b dX9_bits_14 rfl (lv_at hl 1 rfl) ?_
        refine lv_iconst (v := nI 1) hE.x hE.b dX9_bits_15 rfl ?_
        refine lv_ishr hE.x hE.b dX9_bits_16 ?_
        refine z_top (y := (nI (j / 2))) (shr_nI (by have := Nat.pow_le_pow_right (n := 2) (by omega) hd; omega) (by decide)) ?_
        refine lv_istore_n (lv' := [(2, .int (nI (j / 2))), (1, .int (nI (i + (j % 2)))), (0, .int (nI k))]) hE.x hE.b dX9_bits_17 rfl hl (by decide) rfl (fun ls hl => ?_)
        refine lv_goto (tgt := 4) hE.x hE.b dX9_bits_18 (by decide) ?_
        exact ih4 (i + (j % 2)) (j / 2) (d - 1) _ _ _ (by omega) (by omega) (bits_lt hj (by omega)) (bits_st hp hj (by omega)) hB hl
  exact k4 (k + 1) 0 k 8 _ _ _ (Nat.lt_succ_self _) (by omega) (by omega) (by simp [pop]) hB hl

set_option maxHeartbeats 4000000 in
set_option maxRecDepth 100000 in
theorem c_X9_allows (l : Launch) (g : zG) (k : Int32) (X : va_W)  : Met l yX9_allows (Cond.code yX9_allows cX9_allows 1 (some .boolean) :: TBL) { frames := 0, cells := 0, slots := 0, locals := 0 } (zPc [.int k] g (X)) (zQi g (fun r ws => r = bI (alw k) ∧ ws = X)) 0 0 (zA (gz g)) := by
  refine z_start (by decide +kernel) rfl (Nat.le_of_ble_eq_true rfl) ?_
  intro p e s m args below meth c ls hE hr hnm hB hl
  have hl : lv_has ls 1 [(0, .int k)] := hl
  revert hB
  generalize s.heap = H
  generalize ([] : List Loc) = locs
  intro hB
  refine lv_iload_n hE.x hE.b dX9_allows_0 rfl (lv_at hl 0 rfl) ?_
  refine lv_if_eq (tgt := 13) hE.x hE.b dX9_allows_1 (by decide) (fun c_1 => ?_) (fun c_1 => ?_)
  · refine lv_iconst (v := nI 0) hE.x hE.b dX9_allows_13 rfl ?_
    exact z_bret (b := false) (ws := X) hE hB hr (⟨congrArg bI (by unfold alw; simp [c_1]), rfl⟩) dX9_allows_14
  · refine lv_iload_n hE.x hE.b dX9_allows_4 rfl (lv_at hl 0 rfl) ?_
    refine lv_iconst (v := nI 2) hE.x hE.b dX9_allows_5 rfl ?_
    refine lv_icmp_eq (tgt := 13) hE.x hE.b dX9_allows_6 (by decide) (fun c_2 => ?_) (fun c_2 => ?_)
    · refine lv_iconst (v := nI 0) hE.x hE.b dX9_allows_13 rfl ?_
      exact z_bret (b := false) (ws := X) hE hB hr (⟨congrArg bI (by unfold alw; simp [c_1, c_2]), rfl⟩) dX9_allows_14
    · refine lv_iconst (v := nI 1) hE.x hE.b dX9_allows_9 rfl ?_
      refine lv_goto (tgt := 14) hE.x hE.b dX9_allows_10 (by decide) ?_
      exact z_bret (b := true) (ws := X) hE hB hr (⟨congrArg bI (by unfold alw; simp [c_1, c_2]), rfl⟩) dX9_allows_14

set_option maxHeartbeats 4000000 in
set_option maxRecDepth 100000 in
theorem c_X9_speaksDays (l : Launch) (g : zG) (o : Nat) (a : Nat → Nat) (F : Nat → Int32) (L : Nat → Int64) (A : Nat → Nat → Int32) (X : va_W) (q : Nat) (hq : q < 8) : Met l yX9_speaksDays (Cond.code yX9_speaksDays cX9_speaksDays 3 (some .int) :: TBL) { frames := 1, cells := 0, slots := 0, locals := 22 } (zPc [.ref o, .int (nI q)] g (mW g o a F L A ++ X)) (zQi g (fun r ws => r = (spD (A 0) q) ∧ ws = mW g o a F L A ++ X)) 0 0 (zA (gz g)) := by
  refine z_start (by decide +kernel) rfl (Nat.le_of_ble_eq_true rfl) ?_
  intro p e s m args below meth c ls hE hr hnm hB hl
  have hl : lv_has ls 3 [(0, .ref o), (1, .int (nI q))] := hl
  revert hB
  generalize s.heap = H
  generalize ([] : List Loc) = locs
  intro hB
  refine lv_aload_n hE.x hE.b dX9_speaksDays_0 rfl (lv_at hl 0 rfl) ?_
  refine lv_iload_n hE.x hE.b dX9_speaksDays_1 rfl (lv_at hl 1 rfl) ?_
  refine lv_iconst (v := nI 3) hE.x hE.b dX9_speaksDays_2 rfl ?_
  refine z_qi hB (z_cV hE hB (c_X9_has l g o a F L A X q 3 (by omega) (by omega)) q4_155 kX9_has ⟨rfl, rfl⟩ ⟨Nat.le_of_ble_eq_true rfl, Nat.le_of_ble_eq_true rfl⟩ 0 rfl rfl rfl hl.1 rfl (Nat.le_of_ble_eq_true rfl) dX9_speaksDays_3 ⟨Nat.le_of_ble_eq_true rfl, Nat.le_of_ble_eq_true rfl⟩) (fun r_1 w_2 H locs hw hB => ?_)
  obtain ⟨hr9, hw9⟩ := hw
  have hr9 := hr9.symm
  subst hr9
  have hw9 := hw9.symm
  subst hw9
  refine lv_aload_n hE.x hE.b dX9_speaksDays_6 rfl (lv_at hl 0 rfl) ?_
  refine lv_iload_n hE.x hE.b dX9_speaksDays_7 rfl (lv_at hl 1 rfl) ?_
  refine lv_iconst (v := nI 2) hE.x hE.b dX9_speaksDays_8 rfl ?_
  refine z_qi hB (z_cV hE hB (c_X9_has l g o a F L A X q 2 (by omega) (by omega)) q4_155 kX9_has ⟨rfl, rfl⟩ ⟨Nat.le_of_ble_eq_true rfl, Nat.le_of_ble_eq_true rfl⟩ 0 rfl rfl rfl hl.1 rfl (Nat.le_of_ble_eq_true rfl) dX9_speaksDays_9 ⟨Nat.le_of_ble_eq_true rfl, Nat.le_of_ble_eq_true rfl⟩) (fun r_3 w_4 H locs hw hB => ?_)
  obtain ⟨hr9, hw9⟩ := hw
  have hr9 := hr9.symm
  subst hr9
  have hw9 := hw9.symm
  subst hw9
  refine lv_isub hE.x hE.b dX9_speaksDays_12 ?_
  refine lv_istore_n (lv' := [(2, .int ((A 0 (46 + 5 * q + 3)) - (A 0 (46 + 5 * q + 2)))), (0, .ref o), (1, .int (nI q))]) hE.x hE.b dX9_speaksDays_13 rfl hl (by decide) rfl (fun ls hl => ?_)
  refine lv_aload_n hE.x hE.b dX9_speaksDays_14 rfl (lv_at hl 1 rfl) ?_
  refine lv_iload_n hE.x hE.b dX9_speaksDays_15 rfl (lv_at hl 2 rfl) ?_
  refine lv_iconst (v := nI 0) hE.x hE.b dX9_speaksDays_16 rfl ?_
  refine z_qi hB (z_cV hE hB (c_X9_has l g o a F L A X q 0 (by omega) (by omega)) q4_155 kX9_has ⟨rfl, rfl⟩ ⟨Nat.le_of_ble_eq_true rfl, Nat.le_of_ble_eq_true rfl⟩ 0 rfl rfl rfl hl.1 rfl (Nat.le_of_ble_eq_true rfl) dX9_speaksDays_17 ⟨Nat.le_of_ble_eq_true rfl, Nat.le_of_ble_eq_true rfl⟩) (fun r_5 w_6 H locs hw hB => ?_)
  obtain ⟨hr9, hw9⟩ := hw
  have hr9 := hr9.symm
  subst hr9
  have hw9 := hw9.symm
  subst hw9
  refine lv_iconst (v := nI 2) hE.x hE.b dX9_speaksDays_20 rfl ?_
  refine lv_icmp_ne (tgt := 32) hE.x hE.b dX9_speaksDays_21 (by decide) (fun c_7 => ?_) (fun c_7 => ?_)
  · refine lv_iload_n hE.x hE.b dX9_speaksDays_32 rfl (lv_at hl 0 rfl) ?_
    exact z_iret (v := ((A 0 (46 + 5 * q + 3)) - (A 0 (46 + 5 * q + 2)))) (ws := mW g o a F L A ++ X) hE hB hr (⟨by unfold spD; rw [if_neg c_7], rfl⟩) dX9_speaksDays_33
  · refine lv_iload_n hE.x hE.b dX9_speaksDays_24 rfl (lv_at hl 0 rfl) ?_
    refine lv_iconst (v := nI 1) hE.x hE.b dX9_speaksDays_25 rfl ?_
    refine lv_iadd hE.x hE.b dX9_speaksDays_26 ?_
    refine lv_iconst (v := nI 2) hE.x hE.b dX9_speaksDays_27 rfl ?_
    refine lv_idiv hE.x hE.b dX9_speaksDays_28 (by decide) ?_
    refine lv_goto (tgt := 33) hE.x hE.b dX9_speaksDays_29 (by decide) ?_
    exact z_iret (v := ((((A 0 (46 + 5 * q + 3)) - (A 0 (46 + 5 * q + 2))) + (nI 1)) / (nI 2))) (ws := mW g o a F L A ++ X) hE hB hr (⟨by unfold spD; rw [if_pos c_7], rfl⟩) dX9_speaksDays_33

set_option maxHeartbeats 4000000 in
set_option maxRecDepth 100000 in
theorem c_X9_speaks (l : Launch) (g : zG) (o : Nat) (a : Nat → Nat) (F : Nat → Int32) (L : Nat → Int64) (A : Nat → Nat → Int32) (X : va_W) (q : Nat) (tw : Int32) (ac : Int32) (dd : Int32) (dy : Int32) (sh : Int32) (hq : q < 8) : Met l yX9_speaks (Cond.code yX9_speaks cX9_speaks 11 (some .boolean) :: TBL) { frames := 2, cells := 0, slots := 0, locals := 44 } (zPc [.ref o, .int (nI q), .int tw, .int ac, .int dd, .int dy, .int sh] g (mW g o a F L A ++ X)) (zQi g (fun r ws => r = bI (spk (A 0) q tw ac dd dy sh) ∧ ws = mW g o a F L A ++ X)) 0 0 (zA (gz g)) := by
  refine z_start (by decide +kernel) rfl (Nat.le_of_ble_eq_true rfl) ?_
  intro p e s m args below meth c ls hE hr hnm hB hl
  have hl : lv_has ls 11 [(0, .ref o), (1, .int (nI q)), (2, .int tw), (3, .int ac), (4, .int dd), (5, .int dy), (6, .int sh)] := hl
  revert hB
  generalize s.heap = H
  generalize ([] : List Loc) = locs
  intro hB
  refine lv_aload_n hE.x hE.b dX9_speaks_0 rfl (lv_at hl 0 rfl) ?_
  refine lv_iload_n hE.x hE.b dX9_speaks_1 rfl (lv_at hl 1 rfl) ?_
  refine lv_iconst (v := nI 0) hE.x hE.b dX9_speaks_2 rfl ?_
  refine z_qi hB (z_cV hE hB (c_X9_has l g o a F L A X q 0 (by omega) (by omega)) q4_155 kX9_has ⟨rfl, rfl⟩ ⟨Nat.le_of_ble_eq_true rfl, Nat.le_of_ble_eq_true rfl⟩ 0 rfl rfl rfl hl.1 rfl (Nat.le_of_ble_eq_true rfl) dX9_speaks_3 ⟨Nat.le_of_ble_eq_true rfl, Nat.le_of_ble_eq_true rfl⟩) (fun r_1 w_2 H locs hw hB => ?_)
  obtain ⟨hr9, hw9⟩ := hw
  have hr9 := hr9.symm
  subst hr9
  have hw9 := hw9.symm
  subst hw9
  refine lv_istore (lv' := [(7, .int (A 0 (46 + 5 * q + 0))), (0, .ref o), (1, .int (nI q)), (2, .int tw), (3, .int ac), (4, .int dd), (5, .int dy), (6, .int sh)]) hE.x hE.b dX9_speaks_6 hl (by decide) rfl (fun ls hl => ?_)
  have k35 : ∀ (b1 : Bool) (H : Heap) (locs : List Loc) (ls : Array Slot), (b1 = spH (A 0) q tw) → zB g s (mW g o a F L A ++ X) H locs → lv_has ls 11 [(7, .int (A 0 (46 + 5 * q + 0))), (0, .ref o), (1, .int (nI q)), (2, .int tw), (3, .int ac), (4, .int dd), (5, .int dy), (6, .int sh)] → W p l e { frames := 2, cells := 0, slots := 0, locals := 44 } s m args below meth c H locs 0 0 (MQ below (zQi g (fun r ws => r = bI (spk (A 0) q tw ac dd dy sh) ∧ ws = mW g o a F L A ++ X)) args s 0 0 (zA (gz g))) (F0 m 35 ls [.int (bI b1)]) := by
    intro b1 H locs ls hb1 hB hl
    refine lv_istore (lv' := [(8, .int (bI b1)), (7, .int (A 0 (46 + 5 * q + 0))), (0, .ref o), (1, .int (nI q)), (2, .int tw), (3, .int ac), (4, .int dd), (5, .int dy), (6, .int sh)]) hE.x hE.b dX9_speaks_35 hl (by decide) rfl (fun ls hl => ?_)
    have k70 : ∀ (b2 : Bool) (H : Heap) (locs : List Loc) (ls : Array Slot), (b2 = spW (A 0) q dd) → zB g s (mW g o a F L A ++ X) H locs → lv_has ls 11 [(8, .int (bI b1)), (7, .int (A 0 (46 + 5 * q + 0))), (0, .ref o), (1, .int (nI q)), (2, .int tw), (3, .int ac), (4, .int dd), (5, .int dy), (6, .int sh)] → W p l e { frames := 2, cells := 0, slots := 0, locals := 44 } s m args below meth c H locs 0 0 (MQ below (zQi g (fun r ws => r = bI (spk (A 0) q tw ac dd dy sh) ∧ ws = mW g o a F L A ++ X)) args s 0 0 (zA (gz g))) (F0 m 70 ls [.int (bI b2)]) := by
      intro b2 H locs ls hb2 hB hl
      refine lv_istore (lv' := [(9, .int (bI b2)), (8, .int (bI b1)), (7, .int (A 0 (46 + 5 * q + 0))), (0, .ref o), (1, .int (nI q)), (2, .int tw), (3, .int ac), (4, .int dd), (5, .int dy), (6, .int sh)]) hE.x hE.b dX9_speaks_70 hl (by decide) rfl (fun ls hl => ?_)
      have k101 : ∀ (b3 : Bool) (H : Heap) (locs : List Loc) (ls : Array Slot), (b3 = spT (A 0) q dy sh) → zB g s (mW g o a F L A ++ X) H locs → lv_has ls 11 [(9, .int (bI b2)), (8, .int (bI b1)), (7, .int (A 0 (46 + 5 * q + 0))), (0, .ref o), (1, .int (nI q)), (2, .int tw), (3, .int ac), (4, .int dd), (5, .int dy), (6, .int sh)] → W p l e { frames := 2, cells := 0, slots := 0, locals := 44 } s m args below meth c H locs 0 0 (MQ below (zQi g (fun r ws => r = bI (spk (A 0) q tw ac dd dy sh) ∧ ws = mW g o a F L A ++ X)) args s 0 0 (zA (gz g))) (F0 m 101 ls [.int (bI b3)]) := by
        intro b3 H locs ls hb3 hB hl
        refine lv_istore (lv' := [(10, .int (bI b3)), (9, .int (bI b2)), (8, .int (bI b1)), (7, .int (A 0 (46 + 5 * q + 0))), (0, .ref o), (1, .int (nI q)), (2, .int tw), (3, .int ac), (4, .int dd), (5, .int dy), (6, .int sh)]) hE.x hE.b dX9_speaks_101 hl (by decide) rfl (fun ls hl => ?_)
        refine lv_aload_n hE.x hE.b dX9_speaks_103 rfl (lv_at hl 4 rfl) ?_
        refine lv_iload_n hE.x hE.b dX9_speaks_104 rfl (lv_at hl 5 rfl) ?_
        refine lv_iconst (v := nI 1) hE.x hE.b dX9_speaks_105 rfl ?_
        refine z_qi hB (z_cV hE hB (c_X9_has l g o a F L A X q 1 (by omega) (by omega)) q4_155 kX9_has ⟨rfl, rfl⟩ ⟨Nat.le_of_ble_eq_true rfl, Nat.le_of_ble_eq_true rfl⟩ 0 rfl rfl rfl hl.1 rfl (Nat.le_of_ble_eq_true rfl) dX9_speaks_106 ⟨Nat.le_of_ble_eq_true rfl, Nat.le_of_ble_eq_true rfl⟩) (fun r_3 w_4 H locs hw hB => ?_)
        obtain ⟨hr9, hw9⟩ := hw
        have hr9 := hr9.symm
        subst hr9
        have hw9 := hw9.symm
        subst hw9
        refine lv_iload_n hE.x hE.b dX9_speaks_109 rfl (lv_at hl 7 rfl) ?_
        refine lv_icmp_ne (tgt := 132) hE.x hE.b dX9_speaks_110 (by decide) (fun c_5 => ?_) (fun c_5 => ?_)
        · refine lv_iconst (v := nI 0) hE.x hE.b dX9_speaks_132 rfl ?_
          exact z_bret (b := false) (ws := mW g o a F L A ++ X) hE hB hr (⟨congrArg bI (by unfold spk; rw [← hb1, ← hb2, ← hb3]; simp only [c_5, decide_true, decide_false, Bool.not_true, Bool.not_false, Bool.true_and, Bool.and_true, Bool.false_and, Bool.and_false, Bool.true_or, Bool.or_true, Bool.false_or, Bool.or_false, n54, n45, n35, n53]), rfl⟩) dX9_speaks_133
        · refine lv_iload hE.x hE.b dX9_speaks_113 (lv_at hl 2 rfl) ?_
          refine z_bf (b := b1) (tgt := 132) hE dX9_speaks_115 (by decide) (fun c_6 => ?_) (fun c_6 => ?_)
          · refine lv_iconst (v := nI 0) hE.x hE.b dX9_speaks_132 rfl ?_
            exact z_bret (b := false) (ws := mW g o a F L A ++ X) hE hB hr (⟨congrArg bI (by unfold spk; rw [← hb1, ← hb2, ← hb3]; simp only [c_5, c_6, decide_true, decide_false, Bool.not_true, Bool.not_false, Bool.true_and, Bool.and_true, Bool.false_and, Bool.and_false, Bool.true_or, Bool.or_true, Bool.false_or, Bool.or_false, n54, n45, n35, n53]), rfl⟩) dX9_speaks_133
          · refine lv_iload hE.x hE.b dX9_speaks_118 (lv_at hl 1 rfl) ?_
            refine z_bf (b := b2) (tgt := 132) hE dX9_speaks_120 (by decide) (fun c_7 => ?_) (fun c_7 => ?_)
            · refine lv_iconst (v := nI 0) hE.x hE.b dX9_speaks_132 rfl ?_
              exact z_bret (b := false) (ws := mW g o a F L A ++ X) hE hB hr (⟨congrArg bI (by unfold spk; rw [← hb1, ← hb2, ← hb3]; simp only [c_5, c_6, c_7, decide_true, decide_false, Bool.not_true, Bool.not_false, Bool.true_and, Bool.and_true, Bool.false_and, Bool.and_false, Bool.true_or, Bool.or_true, Bool.false_or, Bool.or_false, n54, n45, n35, n53]), rfl⟩) dX9_speaks_133
            · refine lv_iload hE.x hE.b dX9_speaks_123 (lv_at hl 0 rfl) ?_
              refine z_bf (b := b3) (tgt := 132) hE dX9_speaks_125 (by decide) (fun c_8 => ?_) (fun c_8 => ?_)
              · refine lv_iconst (v := nI 0) hE.x hE.b dX9_speaks_132 rfl ?_
                exact z_bret (b := false) (ws := mW g o a F L A ++ X) hE hB hr (⟨congrArg bI (by unfold spk; rw [← hb1, ← hb2, ← hb3]; simp only [c_5, c_6, c_7, c_8, decide_true, decide_false, Bool.not_true, Bool.not_false, Bool.true_and, Bool.and_true, Bool.false_and, Bool.and_false, Bool.true_or, Bool.or_true, Bool.false_or, Bool.or_false, n54, n45, n35, n53]), rfl⟩) dX9_speaks_133
              · refine lv_iconst (v := nI 1) hE.x hE.b dX9_speaks_128 rfl ?_
                refine lv_goto (tgt := 133) hE.x hE.b dX9_speaks_129 (by decide) ?_
                exact z_bret (b := true) (ws := mW g o a F L A ++ X) hE hB hr (⟨congrArg bI (by unfold spk; rw [← hb1, ← hb2, ← hb3]; simp only [c_5, c_6, c_7, c_8, decide_true, decide_false, Bool.not_true, Bool.not_false, Bool.true_and, Bool.and_true, Bool.false_and, Bool.and_false, Bool.true_or, Bool.or_true, Bool.false_or, Bool.or_false, n54, n45, n35, n53]), rfl⟩) dX9_speaks_133
      refine lv_iload hE.x hE.b dX9_speaks_72 (lv_at hl 2 rfl) ?_
      refine lv_iconst (v := nI 4) hE.x hE.b dX9_speaks_74 rfl ?_
      refine lv_icmp_ne (tgt := 84) hE.x hE.b dX9_speaks_75 (by decide) (fun c_9 => ?_) (fun c_9 => ?_)
      · refine lv_iload hE.x hE.b dX9_speaks_84 (lv_at hl 2 rfl) ?_
        refine lv_iconst (v := nI 5) hE.x hE.b dX9_speaks_86 rfl ?_
        refine lv_icmp_ne (tgt := 96) hE.x hE.b dX9_speaks_87 (by decide) (fun c_10 => ?_) (fun c_10 => ?_)
        · refine lv_iconst (v := nI 1) hE.x hE.b dX9_speaks_96 rfl ?_
          refine lv_goto (tgt := 101) hE.x hE.b dX9_speaks_97 (by decide) ?_
          exact k101 true _ _ _ (by unfold spT; simp only [c_9, c_10, decide_true, decide_false, Bool.not_true, Bool.not_false, Bool.true_and, Bool.and_true, Bool.false_and, Bool.and_false, Bool.true_or, Bool.or_true, Bool.false_or, Bool.or_false, n54, n45, n35, n53]) hB hl
        · refine lv_iload hE.x hE.b dX9_speaks_90 (lv_at hl 9 rfl) ?_
          refine lv_iconst (v := nI 1) hE.x hE.b dX9_speaks_92 rfl ?_
          refine lv_icmp_ne (tgt := 100) hE.x hE.b dX9_speaks_93 (by decide) (fun c_11 => ?_) (fun c_11 => ?_)
          · refine lv_iconst (v := nI 0) hE.x hE.b dX9_speaks_100 rfl ?_
            exact k101 false _ _ _ (by unfold spT; simp only [c_9, c_10, c_11, decide_true, decide_false, Bool.not_true, Bool.not_false, Bool.true_and, Bool.and_true, Bool.false_and, Bool.and_false, Bool.true_or, Bool.or_true, Bool.false_or, Bool.or_false, n54, n45, n35, n53]) hB hl
          · refine lv_iconst (v := nI 1) hE.x hE.b dX9_speaks_96 rfl ?_
            refine lv_goto (tgt := 101) hE.x hE.b dX9_speaks_97 (by decide) ?_
            exact k101 true _ _ _ (by unfold spT; simp only [c_9, c_10, c_11, decide_true, decide_false, Bool.not_true, Bool.not_false, Bool.true_and, Bool.and_true, Bool.false_and, Bool.and_false, Bool.true_or, Bool.or_true, Bool.false_or, Bool.or_false, n54, n45, n35, n53]) hB hl
      · refine lv_iload hE.x hE.b dX9_speaks_78 (lv_at hl 8 rfl) ?_
        refine lv_iconst (v := nI 1) hE.x hE.b dX9_speaks_80 rfl ?_
        refine lv_icmp_ne (tgt := 100) hE.x hE.b dX9_speaks_81 (by decide) (fun c_12 => ?_) (fun c_12 => ?_)
        · refine lv_iconst (v := nI 0) hE.x hE.b dX9_speaks_100 rfl ?_
          exact k101 false _ _ _ (by unfold spT; simp only [c_9, c_12, decide_true, decide_false, Bool.not_true, Bool.not_false, Bool.true_and, Bool.and_true, Bool.false_and, Bool.and_false, Bool.true_or, Bool.or_true, Bool.false_or, Bool.or_false, n54, n45, n35, n53]) hB hl
        · refine lv_iload hE.x hE.b dX9_speaks_84 (lv_at hl 2 rfl) ?_
          refine lv_iconst (v := nI 5) hE.x hE.b dX9_speaks_86 rfl ?_
          refine lv_icmp_ne (tgt := 96) hE.x hE.b dX9_speaks_87 (by decide) (fun c_13 => ?_) (fun c_13 => ?_)
          · refine lv_iconst (v := nI 1) hE.x hE.b dX9_speaks_96 rfl ?_
            refine lv_goto (tgt := 101) hE.x hE.b dX9_speaks_97 (by decide) ?_
            exact k101 true _ _ _ (by unfold spT; simp only [c_9, c_12, c_13, decide_true, decide_false, Bool.not_true, Bool.not_false, Bool.true_and, Bool.and_true, Bool.false_and, Bool.and_false, Bool.true_or, Bool.or_true, Bool.false_or, Bool.or_false, n54, n45, n35, n53]) hB hl
          · refine lv_iload hE.x hE.b dX9_speaks_90 (lv_at hl 9 rfl) ?_
            refine lv_iconst (v := nI 1) hE.x hE.b dX9_speaks_92 rfl ?_
            refine lv_icmp_ne (tgt := 100) hE.x hE.b dX9_speaks_93 (by decide) (fun c_14 => ?_) (fun c_14 => ?_)
            · refine lv_iconst (v := nI 0) hE.x hE.b dX9_speaks_100 rfl ?_
              exact k101 false _ _ _ (absurd (c_9.symm.trans c_13) n45) hB hl
            · refine lv_iconst (v := nI 1) hE.x hE.b dX9_speaks_96 rfl ?_
              refine lv_goto (tgt := 101) hE.x hE.b dX9_speaks_97 (by decide) ?_
              exact k101 true _ _ _ (absurd (c_9.symm.trans c_13) n45) hB hl
    refine lv_iload hE.x hE.b dX9_speaks_37 (lv_at hl 6 rfl) ?_
    refine lv_aload_n hE.x hE.b dX9_speaks_39 rfl (lv_at hl 2 rfl) ?_
    refine lv_iload_n hE.x hE.b dX9_speaks_40 rfl (lv_at hl 3 rfl) ?_
    refine lv_iconst (v := nI 2) hE.x hE.b dX9_speaks_41 rfl ?_
    refine z_qi hB (z_cV hE hB (c_X9_has l g o a F L A X q 2 (by omega) (by omega)) q4_155 kX9_has ⟨rfl, rfl⟩ ⟨Nat.le_of_ble_eq_true rfl, Nat.le_of_ble_eq_true rfl⟩ 0 rfl rfl rfl hl.1 rfl (Nat.le_of_ble_eq_true rfl) dX9_speaks_42 ⟨Nat.le_of_ble_eq_true rfl, Nat.le_of_ble_eq_true rfl⟩) (fun r_15 w_16 H locs hw hB => ?_)
    obtain ⟨hr9, hw9⟩ := hw
    have hr9 := hr9.symm
    subst hr9
    have hw9 := hw9.symm
    subst hw9
    refine z_lt (tgt := 69) (X := dd.toInt) (Y := (A 0 (46 + 5 * q + 2)).toInt) hE dX9_speaks_45 (by decide) rfl rfl (fun c_17 => ?_) (fun c_17 => ?_)
    · refine lv_iconst (v := nI 0) hE.x hE.b dX9_speaks_69 rfl ?_
      exact k70 false _ _ _ (by unfold spW; symm; simp only [Bool.and_eq_false_imp, decide_eq_true_eq, decide_eq_false_iff_not]; omega) hB hl
    · refine lv_iload hE.x hE.b dX9_speaks_48 (lv_at hl 6 rfl) ?_
      refine lv_aload_n hE.x hE.b dX9_speaks_50 rfl (lv_at hl 2 rfl) ?_
      refine lv_iload_n hE.x hE.b dX9_speaks_51 rfl (lv_at hl 3 rfl) ?_
      refine lv_iconst (v := nI 2) hE.x hE.b dX9_speaks_52 rfl ?_
      refine z_qi hB (z_cV hE hB (c_X9_has l g o a F L A X q 2 (by omega) (by omega)) q4_155 kX9_has ⟨rfl, rfl⟩ ⟨Nat.le_of_ble_eq_true rfl, Nat.le_of_ble_eq_true rfl⟩ 0 rfl rfl rfl hl.1 rfl (Nat.le_of_ble_eq_true rfl) dX9_speaks_53 ⟨Nat.le_of_ble_eq_true rfl, Nat.le_of_ble_eq_true rfl⟩) (fun r_18 w_19 H locs hw hB => ?_)
      obtain ⟨hr9, hw9⟩ := hw
      have hr9 := hr9.symm
      subst hr9
      have hw9 := hw9.symm
      subst hw9
      refine lv_aload_n hE.x hE.b dX9_speaks_56 rfl (lv_at hl 2 rfl) ?_
      refine lv_iload_n hE.x hE.b dX9_speaks_57 rfl (lv_at hl 3 rfl) ?_
      refine z_qi hB (z_cV hE hB (c_X9_speaksDays l g o a F L A X q (by omega)) q4_162 kX9_speaksDays ⟨rfl, rfl⟩ ⟨Nat.le_of_ble_eq_true rfl, Nat.le_of_ble_eq_true rfl⟩ 0 rfl rfl rfl hl.1 rfl (Nat.le_of_ble_eq_true rfl) dX9_speaks_58 ⟨Nat.le_of_ble_eq_true rfl, Nat.le_of_ble_eq_true rfl⟩) (fun r_20 w_21 H locs hw hB => ?_)
      obtain ⟨hr9, hw9⟩ := hw
      have hr9 := hr9.symm
      subst hr9
      have hw9 := hw9.symm
      subst hw9
      refine lv_iadd hE.x hE.b dX9_speaks_61 ?_
      refine z_ge (tgt := 69) (X := dd.toInt) (Y := ((A 0 (46 + 5 * q + 2)) + (spD (A 0) q)).toInt) hE dX9_speaks_62 (by decide) rfl rfl (fun c_22 => ?_) (fun c_22 => ?_)
      · refine lv_iconst (v := nI 0) hE.x hE.b dX9_speaks_69 rfl ?_
        exact k70 false _ _ _ (by unfold spW; symm; simp only [Bool.and_eq_false_imp, decide_eq_true_eq, decide_eq_false_iff_not]; omega) hB hl
      · refine lv_iconst (v := nI 1) hE.x hE.b dX9_speaks_65 rfl ?_
        refine lv_goto (tgt := 70) hE.x hE.b dX9_speaks_66 (by decide) ?_
        exact k70 true _ _ _ (by unfold spW; symm; simp only [Bool.and_eq_true, decide_eq_true_eq]; omega) hB hl
  refine lv_iload hE.x hE.b dX9_speaks_8 (lv_at hl 0 rfl) ?_
  refine lv_iconst (v := nI 3) hE.x hE.b dX9_speaks_10 rfl ?_
  refine lv_icmp_eq (tgt := 20) hE.x hE.b dX9_speaks_11 (by decide) (fun c_23 => ?_) (fun c_23 => ?_)
  · refine lv_aload_n hE.x hE.b dX9_speaks_20 rfl (lv_at hl 1 rfl) ?_
    refine lv_iload_n hE.x hE.b dX9_speaks_21 rfl (lv_at hl 2 rfl) ?_
    refine lv_iconst (v := nI 4) hE.x hE.b dX9_speaks_22 rfl ?_
    refine z_qi hB (z_cV hE hB (c_X9_has l g o a F L A X q 4 (by omega) (by omega)) q4_155 kX9_has ⟨rfl, rfl⟩ ⟨Nat.le_of_ble_eq_true rfl, Nat.le_of_ble_eq_true rfl⟩ 0 rfl rfl rfl hl.1 rfl (Nat.le_of_ble_eq_true rfl) dX9_speaks_23 ⟨Nat.le_of_ble_eq_true rfl, Nat.le_of_ble_eq_true rfl⟩) (fun r_24 w_25 H locs hw hB => ?_)
    obtain ⟨hr9, hw9⟩ := hw
    have hr9 := hr9.symm
    subst hr9
    have hw9 := hw9.symm
    subst hw9
    refine lv_iload_n hE.x hE.b dX9_speaks_26 rfl (lv_at hl 3 rfl) ?_
    refine lv_icmp_ne (tgt := 34) hE.x hE.b dX9_speaks_27 (by decide) (fun c_26 => ?_) (fun c_26 => ?_)
    · refine lv_iconst (v := nI 0) hE.x hE.b dX9_speaks_34 rfl ?_
      exact k35 false _ _ _ (by unfold spH; simp only [c_23, c_26, decide_true, decide_false, Bool.not_true, Bool.not_false, Bool.true_and, Bool.and_true, Bool.false_and, Bool.and_false, Bool.true_or, Bool.or_true, Bool.false_or, Bool.or_false, n54, n45, n35, n53]) hB hl
    · refine lv_iconst (v := nI 1) hE.x hE.b dX9_speaks_30 rfl ?_
      refine lv_goto (tgt := 35) hE.x hE.b dX9_speaks_31 (by decide) ?_
      exact k35 true _ _ _ (by unfold spH; simp only [c_23, c_26, decide_true, decide_false, Bool.not_true, Bool.not_false, Bool.true_and, Bool.and_true, Bool.false_and, Bool.and_false, Bool.true_or, Bool.or_true, Bool.false_or, Bool.or_false, n54, n45, n35, n53]) hB hl
  · refine lv_iload hE.x hE.b dX9_speaks_14 (lv_at hl 0 rfl) ?_
    refine lv_iconst (v := nI 5) hE.x hE.b dX9_speaks_16 rfl ?_
    refine lv_icmp_ne (tgt := 30) hE.x hE.b dX9_speaks_17 (by decide) (fun c_27 => ?_) (fun c_27 => ?_)
    · refine lv_iconst (v := nI 1) hE.x hE.b dX9_speaks_30 rfl ?_
      refine lv_goto (tgt := 35) hE.x hE.b dX9_speaks_31 (by decide) ?_
      exact k35 true _ _ _ (by unfold spH; simp only [c_23, c_27, decide_true, decide_false, Bool.not_true, Bool.not_false, Bool.true_and, Bool.and_true, Bool.false_and, Bool.and_false, Bool.true_or, Bool.or_true, Bool.false_or, Bool.or_false, n54, n45, n35, n53]) hB hl
    · refine lv_aload_n hE.x hE.b dX9_speaks_20 rfl (lv_at hl 1 rfl) ?_
      refine lv_iload_n hE.x hE.b dX9_speaks_21 rfl (lv_at hl 2 rfl) ?_
      refine lv_iconst (v := nI 4) hE.x hE.b dX9_speaks_22 rfl ?_
      refine z_qi hB (z_cV hE hB (c_X9_has l g o a F L A X q 4 (by omega) (by omega)) q4_155 kX9_has ⟨rfl, rfl⟩ ⟨Nat.le_of_ble_eq_true rfl, Nat.le_of_ble_eq_true rfl⟩ 0 rfl rfl rfl hl.1 rfl (Nat.le_of_ble_eq_true rfl) dX9_speaks_23 ⟨Nat.le_of_ble_eq_true rfl, Nat.le_of_ble_eq_true rfl⟩) (fun r_28 w_29 H locs hw hB => ?_)
      obtain ⟨hr9, hw9⟩ := hw
      have hr9 := hr9.symm
      subst hr9
      have hw9 := hw9.symm
      subst hw9
      refine lv_iload_n hE.x hE.b dX9_speaks_26 rfl (lv_at hl 3 rfl) ?_
      refine lv_icmp_ne (tgt := 34) hE.x hE.b dX9_speaks_27 (by decide) (fun c_30 => ?_) (fun c_30 => ?_)
      · refine lv_iconst (v := nI 0) hE.x hE.b dX9_speaks_34 rfl ?_
        exact k35 false _ _ _ (by unfold spH; simp only [c_23, c_27, c_30, decide_true, decide_false, Bool.not_true, Bool.not_false, Bool.true_and, Bool.and_true, Bool.false_and, Bool.and_false, Bool.true_or, Bool.or_true, Bool.false_or, Bool.or_false, n54, n45, n35, n53]) hB hl
      · refine lv_iconst (v := nI 1) hE.x hE.b dX9_speaks_30 rfl ?_
        refine lv_goto (tgt := 35) hE.x hE.b dX9_speaks_31 (by decide) ?_
        exact k35 true _ _ _ (by unfold spH; simp only [c_23, c_27, c_30, decide_true, decide_false, Bool.not_true, Bool.not_false, Bool.true_and, Bool.and_true, Bool.false_and, Bool.and_false, Bool.true_or, Bool.or_true, Bool.false_or, Bool.or_false, n54, n45, n35, n53]) hB hl

set_option maxHeartbeats 4000000 in
set_option maxRecDepth 100000 in
theorem c_X9_of (l : Launch) (g : zG) (o : Nat) (a : Nat → Nat) (F : Nat → Int32) (L : Nat → Int64) (A : Nat → Nat → Int32) (X : va_W) (T : Nat) (C : Nat) (V : Nat) (U : Nat) (x : Int32) (w : Int32) (hn : nOK (A 0) T C V U) : Met l yX9_of (Cond.code yX9_of cX9_of 3 (some .int) :: TBL) { frames := 2, cells := 0, slots := 0, locals := 46 } (zPc [.ref o, .int x, .int w] g (mW g o a F L A ++ X)) (zQi g (fun r ws => r = (ofR (A 0) C x w) ∧ ws = mW g o a F L (chk (ofOK C x w) A) ++ X)) 0 0 (zA (gz g)) := by
  refine z_start (by decide +kernel) rfl (Nat.le_of_ble_eq_true rfl) ?_
  intro p e s m args below meth c ls hE hr hnm hB hl
  have hl : lv_has ls 3 [(0, .ref o), (1, .int x), (2, .int w)] := hl
  revert hB
  generalize s.heap = H
  generalize ([] : List Loc) = locs
  intro hB
  have hT := hn.T
  have hT6 := hn.T6
  have hC := hn.C
  have hC8 := hn.C8
  have hV := hn.V
  have hV8 := hn.V8
  have hU := hn.U
  have hU8 := hn.U8
  refine lv_aload_n hE.x hE.b dX9_of_0 rfl (lv_at hl 0 rfl) ?_
  refine lv_iload_n hE.x hE.b dX9_of_1 rfl (lv_at hl 1 rfl) ?_
  refine z_qi hB (z_cV hE hB (c_X9_isClause l g o a F L A X C x hC (by omega)) q4_138 kX9_isClause ⟨rfl, rfl⟩ ⟨Nat.le_of_ble_eq_true rfl, Nat.le_of_ble_eq_true rfl⟩ 0 rfl rfl rfl hl.1 rfl (Nat.le_of_ble_eq_true rfl) dX9_of_2 ⟨Nat.le_of_ble_eq_true rfl, Nat.le_of_ble_eq_true rfl⟩) (fun r_1 w_2 H locs hw hB => ?_)
  obtain ⟨hr9, hw9⟩ := hw
  have hr9 := hr9.symm
  subst hr9
  have hw9 := hw9.symm
  subst hw9
  refine z_bf (b := (pTown C x)) (tgt := 20) hE dX9_of_5 (by decide) (fun c_3 => ?_) (fun c_3 => ?_)
  · refine lv_aload_n hE.x hE.b dX9_of_20 rfl (lv_at hl 0 rfl) ?_
    refine lv_bipush (v := (-2)) hE.x hE.b dX9_of_21 rfl ?_
    refine z_qi hB (z_cV hE hB (c_X9_bad l g o a F L A X (-2)) q4_91 kX9_bad ⟨rfl, rfl⟩ ⟨Nat.le_of_ble_eq_true rfl, Nat.le_of_ble_eq_true rfl⟩ 0 rfl rfl rfl hl.1 rfl (Nat.le_of_ble_eq_true rfl) dX9_of_23 ⟨Nat.le_of_ble_eq_true rfl, Nat.le_of_ble_eq_true rfl⟩) (fun r_4 w_5 H locs hw hB => ?_)
    obtain ⟨hr9, hw9⟩ := hw
    have hr9 := hr9.symm
    subst hr9
    have hw9 := hw9.symm
    subst hw9
    exact z_iret (v := (-2)) (ws := mW g o a F L (bump 0 A) ++ X) hE hB hr (⟨by unfold ofR ofOK; simp [c_3], by unfold chk ofOK; simp [c_3]⟩) dX9_of_26
  · refine lv_iload_n hE.x hE.b dX9_of_8 rfl (lv_at hl 2 rfl) ?_
    refine lv_i2l hE.x hE.b dX9_of_9 rfl ?_
    refine lv_lconst (v := lN 0) hE.x hE.b dX9_of_10 rfl ?_
    refine lv_ldc2 (v := lN 6) hE.x hE.b hE.o (hE.t _ q4_154) dX9_of_11 ?_
    refine z_qi hB (z_cS hE hB (c_X9_in l g (Int32.toInt64 w) (lN 0) (lN 6) (Int32.toInt w) 0 6 (mW g o a F L A ++ X) (Int32.toInt_toInt64 _) (by decide) (by decide)) q4_88 kX9_in ⟨rfl, rfl⟩ ⟨Nat.le_of_ble_eq_true rfl, Nat.le_of_ble_eq_true rfl⟩ rfl hl.1 rfl (Nat.le_of_ble_eq_true rfl) dX9_of_14 ⟨Nat.le_of_ble_eq_true rfl, Nat.le_of_ble_eq_true rfl⟩) (fun r_6 w_7 H locs hw hB => ?_)
    obtain ⟨hr9, hw9⟩ := hw
    have hr9 := hr9.symm
    subst hr9
    have hw9 := hw9.symm
    subst hw9
    refine z_bt (b := (inZ 0 6 (Int32.toInt w))) (tgt := 27) hE dX9_of_17 (by decide) (fun c_8 => ?_) (fun c_8 => ?_)
    · obtain ⟨q, hq, rfl⟩ := pTown_nI c_3 (by omega)
      refine lv_iload_n hE.x hE.b dX9_of_27 rfl (lv_at hl 2 rfl) ?_
      refine lv_iconst (v := nI 5) hE.x hE.b dX9_of_28 rfl ?_
      refine lv_icmp_ne (tgt := 52) hE.x hE.b dX9_of_29 (by decide) (fun c_9 => ?_) (fun c_9 => ?_)
      · refine lv_iload_n hE.x hE.b dX9_of_52 rfl (lv_at hl 2 rfl) ?_
        refine lv_bipush (v := (nI 6)) hE.x hE.b dX9_of_53 rfl ?_
        refine lv_icmp_ne (tgt := 66) hE.x hE.b dX9_of_55 (by decide) (fun c_10 => ?_) (fun c_10 => ?_)
        · obtain ⟨wn, hwn, rfl⟩ := pIn_nI (hi := 6) c_8 (by omega)
          refine lv_aload_n hE.x hE.b dX9_of_66 rfl (lv_at hl 0 rfl) ?_
          refine lv_iload_n hE.x hE.b dX9_of_67 rfl (lv_at hl 1 rfl) ?_
          refine lv_iload_n hE.x hE.b dX9_of_68 rfl (lv_at hl 2 rfl) ?_
          refine z_qi hB (z_cV hE hB (c_X9_has l g o a F L A X q wn (by omega) (by have h5 : wn ≠ 5 := fun h => c_9 (by rw [h]); have h6 : wn ≠ 6 := fun h => c_10 (by rw [h]); omega)) q4_155 kX9_has ⟨rfl, rfl⟩ ⟨Nat.le_of_ble_eq_true rfl, Nat.le_of_ble_eq_true rfl⟩ 0 rfl rfl rfl hl.1 rfl (Nat.le_of_ble_eq_true rfl) dX9_of_69 ⟨Nat.le_of_ble_eq_true rfl, Nat.le_of_ble_eq_true rfl⟩) (fun r_11 w_12 H locs hw hB => ?_)
          obtain ⟨hr9, hw9⟩ := hw
          have hr9 := hr9.symm
          subst hr9
          have hw9 := hw9.symm
          subst hw9
          exact z_iret (v := (A 0 (46 + 5 * q + wn))) (ws := mW g o a F L A ++ X) hE hB hr (⟨by unfold ofR ofOK pIn; rw [c_3, c_8, Bool.and_self, if_pos rfl, if_neg c_9, if_neg c_10, rcl (show q < 2 ^ 31 by omega), rcl (show wn < 2 ^ 31 by omega)], by unfold chk ofOK pIn; rw [c_3, c_8, Bool.and_self, if_pos rfl]⟩) dX9_of_72
        · refine lv_aload_n hE.x hE.b dX9_of_58 rfl (lv_at hl 0 rfl) ?_
          refine lv_iload_n hE.x hE.b dX9_of_59 rfl (lv_at hl 1 rfl) ?_
          refine z_qi hB (z_cV hE hB (c_X9_speaksDays l g o a F L A X q (by omega)) q4_162 kX9_speaksDays ⟨rfl, rfl⟩ ⟨Nat.le_of_ble_eq_true rfl, Nat.le_of_ble_eq_true rfl⟩ 0 rfl rfl rfl hl.1 rfl (Nat.le_of_ble_eq_true rfl) dX9_of_60 ⟨Nat.le_of_ble_eq_true rfl, Nat.le_of_ble_eq_true rfl⟩) (fun r_13 w_14 H locs hw hB => ?_)
          obtain ⟨hr9, hw9⟩ := hw
          have hr9 := hr9.symm
          subst hr9
          have hw9 := hw9.symm
          subst hw9
          refine lv_goto (tgt := 72) hE.x hE.b dX9_of_63 (by decide) ?_
          exact z_iret (v := (spD (A 0) q)) (ws := mW g o a F L A ++ X) hE hB hr (⟨by unfold ofR ofOK pIn; rw [c_3, c_8, Bool.and_self, if_pos rfl, if_neg c_9, if_pos c_10, rcl (show q < 2 ^ 31 by omega)], by unfold chk ofOK pIn; rw [c_3, c_8, Bool.and_self, if_pos rfl]⟩) dX9_of_72
      · refine lv_aload_n hE.x hE.b dX9_of_32 rfl (lv_at hl 0 rfl) ?_
        refine lv_iload_n hE.x hE.b dX9_of_33 rfl (lv_at hl 1 rfl) ?_
        refine lv_iconst (v := nI 0) hE.x hE.b dX9_of_34 rfl ?_
        refine z_qi hB (z_cV hE hB (c_X9_has l g o a F L A X q 0 (by omega) (by omega)) q4_155 kX9_has ⟨rfl, rfl⟩ ⟨Nat.le_of_ble_eq_true rfl, Nat.le_of_ble_eq_true rfl⟩ 0 rfl rfl rfl hl.1 rfl (Nat.le_of_ble_eq_true rfl) dX9_of_35 ⟨Nat.le_of_ble_eq_true rfl, Nat.le_of_ble_eq_true rfl⟩) (fun r_15 w_16 H locs hw hB => ?_)
        obtain ⟨hr9, hw9⟩ := hw
        have hr9 := hr9.symm
        subst hr9
        have hw9 := hw9.symm
        subst hw9
        refine z_qi hB (z_cS hE hB (c_X9_allows l g (A 0 (46 + 5 * q + 0)) (mW g o a F L A ++ X)) q4_159 kX9_allows ⟨rfl, rfl⟩ ⟨Nat.le_of_ble_eq_true rfl, Nat.le_of_ble_eq_true rfl⟩ rfl hl.1 rfl (Nat.le_of_ble_eq_true rfl) dX9_of_38 ⟨Nat.le_of_ble_eq_true rfl, Nat.le_of_ble_eq_true rfl⟩) (fun r_17 w_18 H locs hw hB => ?_)
        obtain ⟨hr9, hw9⟩ := hw
        have hr9 := hr9.symm
        subst hr9
        have hw9 := hw9.symm
        subst hw9
        refine z_bf (b := (alw (A 0 (46 + 5 * q + 0)))) (tgt := 48) hE dX9_of_41 (by decide) (fun c_19 => ?_) (fun c_19 => ?_)
        · refine lv_iconst (v := nI 0) hE.x hE.b dX9_of_48 rfl ?_
          refine lv_goto (tgt := 72) hE.x hE.b dX9_of_49 (by decide) ?_
          exact z_iret (v := (nI 0)) (ws := mW g o a F L A ++ X) hE hB hr (⟨by unfold ofR ofOK pIn; rw [c_3, c_8, Bool.and_self, if_pos rfl, if_pos c_9, rcl (show q < 2 ^ 31 by omega), c_19]; rfl, by unfold chk ofOK pIn; rw [c_3, c_8, Bool.and_self, if_pos rfl]⟩) dX9_of_72
        · refine lv_iconst (v := nI 1) hE.x hE.b dX9_of_44 rfl ?_
          refine lv_goto (tgt := 72) hE.x hE.b dX9_of_45 (by decide) ?_
          exact z_iret (v := (nI 1)) (ws := mW g o a F L A ++ X) hE hB hr (⟨by unfold ofR ofOK pIn; rw [c_3, c_8, Bool.and_self, if_pos rfl, if_pos c_9, rcl (show q < 2 ^ 31 by omega), c_19]; rfl, by unfold chk ofOK pIn; rw [c_3, c_8, Bool.and_self, if_pos rfl]⟩) dX9_of_72
    · refine lv_aload_n hE.x hE.b dX9_of_20 rfl (lv_at hl 0 rfl) ?_
      refine lv_bipush (v := (-2)) hE.x hE.b dX9_of_21 rfl ?_
      refine z_qi hB (z_cV hE hB (c_X9_bad l g o a F L A X (-2)) q4_91 kX9_bad ⟨rfl, rfl⟩ ⟨Nat.le_of_ble_eq_true rfl, Nat.le_of_ble_eq_true rfl⟩ 0 rfl rfl rfl hl.1 rfl (Nat.le_of_ble_eq_true rfl) dX9_of_23 ⟨Nat.le_of_ble_eq_true rfl, Nat.le_of_ble_eq_true rfl⟩) (fun r_20 w_21 H locs hw hB => ?_)
      obtain ⟨hr9, hw9⟩ := hw
      have hr9 := hr9.symm
      subst hr9
      have hw9 := hw9.symm
      subst hw9
      exact z_iret (v := (-2)) (ws := mW g o a F L (bump 0 A) ++ X) hE hB hr (⟨by unfold ofR ofOK; simp [c_3, c_8], by unfold chk ofOK; simp [c_3, c_8]⟩) dX9_of_26

set_option maxHeartbeats 4000000 in
set_option maxRecDepth 100000 in
theorem c_X9_hear (l : Launch) (g : zG) (o : Nat) (a : Nat → Nat) (F : Nat → Int32) (L : Nat → Int64) (A : Nat → Nat → Int32) (X : va_W) (C : Nat) (tw : Int32) (ac : Int32) (dd : Int32) (dy : Int32) (sh : Int32) (S : Nat) (hC : A 0 1 = nI C) (hC8 : C ≤ 8) (hS : S < 256) : Met l yX9_hear (Cond.code yX9_hear cX9_hear 8 none :: TBL) { frames := 3, cells := 0, slots := 0, locals := 74 } (zPc [.ref o, .int tw, .int ac, .int dd, .int dy, .int sh, .int (nI S)] g (mW g o a F L A ++ X)) (zQv g (fun ws => ∃ (F1 : Nat → Int32), ws = mW g o a F1 L A ++ X ∧ F1 16 = F 16 ∧ F1 6 = oI (hF (hP (A 0) S tw ac dd dy sh) C) ∧ F1 7 = oI (hL (hP (A 0) S tw ac dd dy sh) C) ∧ F1 8 = oI (hF (hA (A 0) (hP (A 0) S tw ac dd dy sh)) C) ∧ F1 9 = oI (hF (hB' (A 0) (hP (A 0) S tw ac dd dy sh)) C) ∧ F1 10 = nI (cn (hA (A 0) (hP (A 0) S tw ac dd dy sh)) C) ∧ F1 11 = nI (cn (hB' (A 0) (hP (A 0) S tw ac dd dy sh)) C))) 0 0 (zA (gz g)) := by
  refine z_start (by decide +kernel) rfl (Nat.le_of_ble_eq_true rfl) ?_
  intro p e s m args below meth c ls hE hr hnm hB hl
  have hl : lv_has ls 8 [(0, .ref o), (1, .int tw), (2, .int ac), (3, .int dd), (4, .int dy), (5, .int sh), (6, .int (nI S))] := hl
  revert hB
  generalize s.heap = H
  generalize ([] : List Loc) = locs
  intro hB
  refine lv_aload_n hE.x hE.b dX9_hear_0 rfl (lv_at hl 0 rfl) ?_
  refine lv_iconst (v := (-1)) hE.x hE.b dX9_hear_1 rfl ?_
  refine z_put (v := .int (-1)) (ty := .int) (ws' := mW g o a (upd F 6 (-1)) L A ++ X) hE hB inX9 tyX9 tyX9_ok nmX9 0 rfl rfl 6 (by decide) q4_7 (fun _ h9 => h9) rfl (by decide +kernel) rfl rfl (Nat.le_of_ble_eq_true rfl) rfl dX9_hear_2 (fun H locs hB => ?_)
  refine lv_aload_n hE.x hE.b dX9_hear_5 rfl (lv_at hl 0 rfl) ?_
  refine lv_iconst (v := (-1)) hE.x hE.b dX9_hear_6 rfl ?_
  refine z_put (v := .int (-1)) (ty := .int) (ws' := mW g o a (upd (upd F 6 (-1)) 7 (-1)) L A ++ X) hE hB inX9 tyX9 tyX9_ok nmX9 0 rfl rfl 7 (by decide) q4_8 (fun _ h9 => h9) rfl (by decide +kernel) rfl rfl (Nat.le_of_ble_eq_true rfl) rfl dX9_hear_7 (fun H locs hB => ?_)
  refine lv_aload_n hE.x hE.b dX9_hear_10 rfl (lv_at hl 0 rfl) ?_
  refine lv_iconst (v := (-1)) hE.x hE.b dX9_hear_11 rfl ?_
  refine z_put (v := .int (-1)) (ty := .int) (ws' := mW g o a (upd (upd (upd F 6 (-1)) 7 (-1)) 8 (-1)) L A ++ X) hE hB inX9 tyX9 tyX9_ok nmX9 0 rfl rfl 8 (by decide) q4_9 (fun _ h9 => h9) rfl (by decide +kernel) rfl rfl (Nat.le_of_ble_eq_true rfl) rfl dX9_hear_12 (fun H locs hB => ?_)
  refine lv_aload_n hE.x hE.b dX9_hear_15 rfl (lv_at hl 0 rfl) ?_
  refine lv_iconst (v := (-1)) hE.x hE.b dX9_hear_16 rfl ?_
  refine z_put (v := .int (-1)) (ty := .int) (ws' := mW g o a (upd (upd (upd (upd F 6 (-1)) 7 (-1)) 8 (-1)) 9 (-1)) L A ++ X) hE hB inX9 tyX9 tyX9_ok nmX9 0 rfl rfl 9 (by decide) q4_10 (fun _ h9 => h9) rfl (by decide +kernel) rfl rfl (Nat.le_of_ble_eq_true rfl) rfl dX9_hear_17 (fun H locs hB => ?_)
  refine lv_aload_n hE.x hE.b dX9_hear_20 rfl (lv_at hl 0 rfl) ?_
  refine lv_iconst (v := nI 0) hE.x hE.b dX9_hear_21 rfl ?_
  refine z_put (v := .int (nI 0)) (ty := .int) (ws' := mW g o a (upd (upd (upd (upd (upd F 6 (-1)) 7 (-1)) 8 (-1)) 9 (-1)) 10 (nI 0)) L A ++ X) hE hB inX9 tyX9 tyX9_ok nmX9 0 rfl rfl 10 (by decide) q4_11 (fun _ h9 => h9) rfl (by decide +kernel) rfl rfl (Nat.le_of_ble_eq_true rfl) rfl dX9_hear_22 (fun H locs hB => ?_)
  refine lv_aload_n hE.x hE.b dX9_hear_25 rfl (lv_at hl 0 rfl) ?_
  refine lv_iconst (v := nI 0) hE.x hE.b dX9_hear_26 rfl ?_
  refine z_put (v := .int (nI 0)) (ty := .int) (ws' := mW g o a (upd (upd (upd (upd (upd (upd F 6 (-1)) 7 (-1)) 8 (-1)) 9 (-1)) 10 (nI 0)) 11 (nI 0)) L A ++ X) hE hB inX9 tyX9 tyX9_ok nmX9 0 rfl rfl 11 (by decide) q4_12 (fun _ h9 => h9) rfl (by decide +kernel) rfl rfl (Nat.le_of_ble_eq_true rfl) rfl dX9_hear_27 (fun H locs hB => ?_)
  refine lv_iconst (v := nI 0) hE.x hE.b dX9_hear_30 rfl ?_
  refine lv_istore (lv' := [(7, .int (nI 0)), (0, .ref o), (1, .int tw), (2, .int ac), (3, .int dd), (4, .int dy), (5, .int sh), (6, .int (nI S))]) hE.x hE.b dX9_hear_31 hl (by decide) rfl (fun ls hl => ?_)
  have k33 : ∀ (fu : Nat) (i : Nat) (F1 : Nat → Int32) (H : Heap) (locs : List Loc) (ls : Array Slot), C - i < fu → (i ≤ C) → (F1 16 = F 16) → (F1 6 = oI (hF (hP (A 0) S tw ac dd dy sh) i)) → (F1 7 = oI (hL (hP (A 0) S tw ac dd dy sh) i)) → (F1 8 = oI (hF (hA (A 0) (hP (A 0) S tw ac dd dy sh)) i)) → (F1 9 = oI (hF (hB' (A 0) (hP (A 0) S tw ac dd dy sh)) i)) → (F1 10 = nI (cn (hA (A 0) (hP (A 0) S tw ac dd dy sh)) i)) → (F1 11 = nI (cn (hB' (A 0) (hP (A 0) S tw ac dd dy sh)) i)) → zB g s (mW g o a F1 L A ++ X) H locs → lv_has ls 8 [(7, .int (nI i)), (0, .ref o), (1, .int tw), (2, .int ac), (3, .int dd), (4, .int dy), (5, .int sh), (6, .int (nI S))] → W p l e { frames := 3, cells := 0, slots := 0, locals := 74 } s m args below meth c H locs 0 0 (MQ below (zQv g (fun ws => ∃ (F1 : Nat → Int32), ws = mW g o a F1 L A ++ X ∧ F1 16 = F 16 ∧ F1 6 = oI (hF (hP (A 0) S tw ac dd dy sh) C) ∧ F1 7 = oI (hL (hP (A 0) S tw ac dd dy sh) C) ∧ F1 8 = oI (hF (hA (A 0) (hP (A 0) S tw ac dd dy sh)) C) ∧ F1 9 = oI (hF (hB' (A 0) (hP (A 0) S tw ac dd dy sh)) C) ∧ F1 10 = nI (cn (hA (A 0) (hP (A 0) S tw ac dd dy sh)) C) ∧ F1 11 = nI (cn (hB' (A 0) (hP (A 0) S tw ac dd dy sh)) C))) args s 0 0 (zA (gz g))) (F0 m 33 ls []) := by
    intro fu
    induction fu with
    | zero => intro i F1 H locs ls hfu hi h16 h6 h7 h8 h9 h10 h11 hB hl; exact absurd hfu (Nat.not_lt_zero _)
    | succ fu ih33 =>
      intro i F1 H locs ls hfu hi h16 h6 h7 h8 h9 h10 h11 hB hl
      refine lv_iload hE.x hE.b dX9_hear_33 (lv_at hl 0 rfl) ?_
      refine lv_aload_n hE.x hE.b dX9_hear_35 rfl (lv_at hl 1 rfl) ?_
      refine z_qi hB (z_cV hE hB (c_X9_clauses l g o a F1 L A X C hC) q4_123 kX9_clauses ⟨rfl, rfl⟩ ⟨Nat.le_of_ble_eq_true rfl, Nat.le_of_ble_eq_true rfl⟩ 0 rfl rfl rfl hl.1 rfl (Nat.le_of_ble_eq_true rfl) dX9_hear_36 ⟨Nat.le_of_ble_eq_true rfl, Nat.le_of_ble_eq_true rfl⟩) (fun r_1 w_2 H locs hw hB => ?_)
      obtain ⟨hr9, hw9⟩ := hw
      have hr9 := hr9.symm
      subst hr9
      have hw9 := hw9.symm
      subst hw9
      refine z_ge (tgt := 179) (X := ((i : Nat) : Int)) (Y := ((C : Nat) : Int)) hE dX9_hear_39 (by decide) (nI_toInt (n := i) (by omega)) (nI_toInt (n := C) (by omega)) (fun c_3 => ?_) (fun c_3 => ?_)
      · exact z_vret (ws := mW g o a F1 L A ++ X) hE hB hr (by rw [show i = C by omega] at h6 h7 h8 h9 h10 h11; exact ⟨F1, rfl, h16, h6, h7, h8, h9, h10, h11⟩) dX9_hear_179
      · refine lv_iload hE.x hE.b dX9_hear_42 (lv_at hl 7 rfl) ?_
        refine lv_iload hE.x hE.b dX9_hear_44 (lv_at hl 0 rfl) ?_
        refine lv_ishr hE.x hE.b dX9_hear_46 ?_
        refine z_top (y := (nI (S / 2 ^ i))) (shr_nI (by omega) (by omega)) ?_
        refine lv_iconst (v := nI 1) hE.x hE.b dX9_hear_47 rfl ?_
        refine lv_iand hE.x hE.b dX9_hear_48 ?_
        refine z_top (y := (nI (S / 2 ^ i % 2))) (and1_nI (by have := Nat.div_le_self S (2 ^ i); omega)) ?_
        have hd31 : S / 2 ^ i % 2 < 2 := Nat.mod_lt _ (by omega)
        refine z_ne0 (tgt := 173) (X := (((S / 2 ^ i % 2) : Nat) : Int)) hE dX9_hear_49 (by decide) (nI_toInt (n := (S / 2 ^ i % 2)) (by omega)) (fun c_4 => ?_) (fun c_4 => ?_)
        · have hp : (hP (A 0) S tw ac dd dy sh) i = false := by unfold hP; rw [decide_eq_false (by omega)]; rfl
          have hpa : hA (A 0) (hP (A 0) S tw ac dd dy sh) i = false := by unfold hA; rw [hp]; rfl
          have hpb : hB' (A 0) (hP (A 0) S tw ac dd dy sh) i = false := by unfold hB'; rw [hp]; rfl
          refine lv_iinc (v := (nI (i + 1))) (lv' := [(7, .int (nI (i + 1))), (0, .ref o), (1, .int tw), (2, .int ac), (3, .int dd), (4, .int dy), (5, .int sh), (6, .int (nI S))]) hE.x hE.b dX9_hear_173 hl (k := 0) rfl (nI_add _ _) (by decide) rfl (fun ls hl => ?_)
          refine lv_goto (tgt := 33) hE.x hE.b dX9_hear_176 (by decide) ?_
          exact ih33 (i + 1) F1 _ _ _ (by omega) (by omega) (by show F1 16 = _; exact h16) (by rw [hF_f hp]; exact h6) (by rw [hL_f hp]; exact h7) (by rw [hF_f hpa]; exact h8) (by rw [hF_f hpb]; exact h9) (by rw [cn_f hpa]; exact h10) (by rw [cn_f hpb]; exact h11) hB hl
        · refine lv_aload_n hE.x hE.b dX9_hear_52 rfl (lv_at hl 1 rfl) ?_
          refine lv_iload hE.x hE.b dX9_hear_53 (lv_at hl 0 rfl) ?_
          refine lv_iload_n hE.x hE.b dX9_hear_55 rfl (lv_at hl 2 rfl) ?_
          refine lv_iload_n hE.x hE.b dX9_hear_56 rfl (lv_at hl 3 rfl) ?_
          refine lv_iload_n hE.x hE.b dX9_hear_57 rfl (lv_at hl 4 rfl) ?_
          refine lv_iload hE.x hE.b dX9_hear_58 (lv_at hl 5 rfl) ?_
          refine lv_iload hE.x hE.b dX9_hear_60 (lv_at hl 6 rfl) ?_
          refine z_qi hB (z_cV hE hB (c_X9_speaks l g o a F1 L A X i tw ac dd dy sh (by omega)) q4_185 kX9_speaks ⟨rfl, rfl⟩ ⟨Nat.le_of_ble_eq_true rfl, Nat.le_of_ble_eq_true rfl⟩ 0 rfl rfl rfl hl.1 rfl (Nat.le_of_ble_eq_true rfl) dX9_hear_62 ⟨Nat.le_of_ble_eq_true rfl, Nat.le_of_ble_eq_true rfl⟩) (fun r_5 w_6 H locs hw hB => ?_)
          obtain ⟨hr9, hw9⟩ := hw
          have hr9 := hr9.symm
          subst hr9
          have hw9 := hw9.symm
          subst hw9
          refine z_bf (b := (spk (A 0) i tw ac dd dy sh)) (tgt := 173) hE dX9_hear_65 (by decide) (fun c_7 => ?_) (fun c_7 => ?_)
          · have hp : (hP (A 0) S tw ac dd dy sh) i = false := by unfold hP; rw [c_7]; exact Bool.and_false _
            have hpa : hA (A 0) (hP (A 0) S tw ac dd dy sh) i = false := by unfold hA; rw [hp]; rfl
            have hpb : hB' (A 0) (hP (A 0) S tw ac dd dy sh) i = false := by unfold hB'; rw [hp]; rfl
            refine lv_iinc (v := (nI (i + 1))) (lv' := [(7, .int (nI (i + 1))), (0, .ref o), (1, .int tw), (2, .int ac), (3, .int dd), (4, .int dy), (5, .int sh), (6, .int (nI S))]) hE.x hE.b dX9_hear_173 hl (k := 0) rfl (nI_add _ _) (by decide) rfl (fun ls hl => ?_)
            refine lv_goto (tgt := 33) hE.x hE.b dX9_hear_176 (by decide) ?_
            exact ih33 (i + 1) F1 _ _ _ (by omega) (by omega) (by show F1 16 = _; exact h16) (by rw [hF_f hp]; exact h6) (by rw [hL_f hp]; exact h7) (by rw [hF_f hpa]; exact h8) (by rw [hF_f hpb]; exact h9) (by rw [cn_f hpa]; exact h10) (by rw [cn_f hpb]; exact h11) hB hl
          · have hp : (hP (A 0) S tw ac dd dy sh) i = true := by unfold hP; rw [c_7, decide_eq_true (by omega)]; rfl
            refine lv_aload_n hE.x hE.b dX9_hear_68 rfl (lv_at hl 1 rfl) ?_
            refine lv_aload_n hE.x hE.b dX9_hear_69 rfl (lv_at hl 1 rfl) ?_
            refine z_get (v := .int (F1 6)) hE hB inX9 0 rfl rfl 6 (by decide) q4_7 (fun _ h9 => h9) rfl dX9_hear_70 ?_
            refine lv_iconst (v := (-1)) hE.x hE.b dX9_hear_73 rfl ?_
            refine lv_icmp_ne (tgt := 82) hE.x hE.b dX9_hear_74 (by decide) (fun c_8 => ?_) (fun c_8 => ?_)
            · refine lv_aload_n hE.x hE.b dX9_hear_82 rfl (lv_at hl 1 rfl) ?_
              refine z_get (v := .int (F1 6)) hE hB inX9 0 rfl rfl 6 (by decide) q4_7 (fun _ h9 => h9) rfl dX9_hear_83 ?_
              refine z_put (v := .int (F1 6)) (ty := .int) (ws' := mW g o a (upd F1 6 (F1 6)) L A ++ X) hE hB inX9 tyX9 tyX9_ok nmX9 0 rfl rfl 6 (by decide) q4_7 (fun _ h9 => h9) rfl (by decide +kernel) rfl rfl (Nat.le_of_ble_eq_true rfl) rfl dX9_hear_86 (fun H locs hB => ?_)
              refine lv_aload_n hE.x hE.b dX9_hear_89 rfl (lv_at hl 1 rfl) ?_
              refine lv_iload hE.x hE.b dX9_hear_90 (lv_at hl 0 rfl) ?_
              refine z_put (v := .int (nI i)) (ty := .int) (ws' := mW g o a (upd (upd F1 6 (F1 6)) 7 (nI i)) L A ++ X) hE hB inX9 tyX9 tyX9_ok nmX9 0 rfl rfl 7 (by decide) q4_8 (fun _ h9 => h9) rfl (by decide +kernel) rfl rfl (Nat.le_of_ble_eq_true rfl) rfl dX9_hear_92 (fun H locs hB => ?_)
              refine lv_aload_n hE.x hE.b dX9_hear_95 rfl (lv_at hl 1 rfl) ?_
              refine lv_iload hE.x hE.b dX9_hear_96 (lv_at hl 0 rfl) ?_
              refine lv_iconst (v := nI 0) hE.x hE.b dX9_hear_98 rfl ?_
              refine z_qi hB (z_cV hE hB (c_X9_has l g o a (upd (upd F1 6 (F1 6)) 7 (nI i)) L A X i 0 (by omega) (by omega)) q4_155 kX9_has ⟨rfl, rfl⟩ ⟨Nat.le_of_ble_eq_true rfl, Nat.le_of_ble_eq_true rfl⟩ 0 rfl rfl rfl hl.1 rfl (Nat.le_of_ble_eq_true rfl) dX9_hear_99 ⟨Nat.le_of_ble_eq_true rfl, Nat.le_of_ble_eq_true rfl⟩) (fun r_9 w_10 H locs hw hB => ?_)
              obtain ⟨hr9, hw9⟩ := hw
              have hr9 := hr9.symm
              subst hr9
              have hw9 := hw9.symm
              subst hw9
              refine z_qi hB (z_cS hE hB (c_X9_allows l g (A 0 (46 + 5 * i + 0)) (mW g o a (upd (upd F1 6 (F1 6)) 7 (nI i)) L A ++ X)) q4_159 kX9_allows ⟨rfl, rfl⟩ ⟨Nat.le_of_ble_eq_true rfl, Nat.le_of_ble_eq_true rfl⟩ rfl hl.1 rfl (Nat.le_of_ble_eq_true rfl) dX9_hear_102 ⟨Nat.le_of_ble_eq_true rfl, Nat.le_of_ble_eq_true rfl⟩) (fun r_11 w_12 H locs hw hB => ?_)
              obtain ⟨hr9, hw9⟩ := hw
              have hr9 := hr9.symm
              subst hr9
              have hw9 := hw9.symm
              subst hw9
              refine z_bf (b := (alw (A 0 (46 + 5 * i + 0)))) (tgt := 142) hE dX9_hear_105 (by decide) (fun c_13 => ?_) (fun c_13 => ?_)
              · have hpa : hA (A 0) (hP (A 0) S tw ac dd dy sh) i = false := by unfold hA; rw [c_13]; exact Bool.and_false _
                have hpb : hB' (A 0) (hP (A 0) S tw ac dd dy sh) i = true := by unfold hB'; rw [c_13, hp]; rfl
                refine lv_aload_n hE.x hE.b dX9_hear_142 rfl (lv_at hl 1 rfl) ?_
                refine lv_aload_n hE.x hE.b dX9_hear_143 rfl (lv_at hl 1 rfl) ?_
                refine z_get (v := .int (F1 9)) hE hB inX9 0 rfl rfl 9 (by decide) q4_10 (fun _ h9 => h9) rfl dX9_hear_144 ?_
                refine lv_iconst (v := (-1)) hE.x hE.b dX9_hear_147 rfl ?_
                refine lv_icmp_ne (tgt := 156) hE.x hE.b dX9_hear_148 (by decide) (fun c_14 => ?_) (fun c_14 => ?_)
                · refine lv_aload_n hE.x hE.b dX9_hear_156 rfl (lv_at hl 1 rfl) ?_
                  refine z_get (v := .int (F1 9)) hE hB inX9 0 rfl rfl 9 (by decide) q4_10 (fun _ h9 => h9) rfl dX9_hear_157 ?_
                  refine z_put (v := .int (F1 9)) (ty := .int) (ws' := mW g o a (upd (upd (upd F1 6 (F1 6)) 7 (nI i)) 9 (F1 9)) L A ++ X) hE hB inX9 tyX9 tyX9_ok nmX9 0 rfl rfl 9 (by decide) q4_10 (fun _ h9 => h9) rfl (by decide +kernel) rfl rfl (Nat.le_of_ble_eq_true rfl) rfl dX9_hear_160 (fun H locs hB => ?_)
                  refine lv_aload_n hE.x hE.b dX9_hear_163 rfl (lv_at hl 1 rfl) ?_
                  refine lv_dup hE.x hE.b dX9_hear_164 rfl ?_
                  refine z_get (v := .int (F1 11)) hE hB inX9 0 rfl rfl 11 (by decide) q4_12 (fun _ h9 => h9) rfl dX9_hear_165 ?_
                  refine lv_iconst (v := nI 1) hE.x hE.b dX9_hear_168 rfl ?_
                  refine lv_iadd hE.x hE.b dX9_hear_169 ?_
                  refine z_put (v := .int ((F1 11) + (nI 1))) (ty := .int) (ws' := mW g o a (upd (upd (upd (upd F1 6 (F1 6)) 7 (nI i)) 9 (F1 9)) 11 ((F1 11) + (nI 1))) L A ++ X) hE hB inX9 tyX9 tyX9_ok nmX9 0 rfl rfl 11 (by decide) q4_12 (fun _ h9 => h9) rfl (by decide +kernel) rfl rfl (Nat.le_of_ble_eq_true rfl) rfl dX9_hear_170 (fun H locs hB => ?_)
                  refine lv_iinc (v := (nI (i + 1))) (lv' := [(7, .int (nI (i + 1))), (0, .ref o), (1, .int tw), (2, .int ac), (3, .int dd), (4, .int dy), (5, .int sh), (6, .int (nI S))]) hE.x hE.b dX9_hear_173 hl (k := 0) rfl (nI_add _ _) (by decide) rfl (fun ls hl => ?_)
                  refine lv_goto (tgt := 33) hE.x hE.b dX9_hear_176 (by decide) ?_
                  exact ih33 (i + 1) (upd (upd (upd (upd F1 6 (F1 6)) 7 (nI i)) 9 (F1 9)) 11 ((F1 11) + (nI 1))) _ _ _ (by omega) (by omega) (by show F1 16 = _; exact h16) (by show (F1 6) = _; exact hF_k h6 c_8) (by show (nI i) = _; rw [hL_t hp]; rfl) (by show (F1 8) = _; rw [hF_f hpa]; exact h8) (by show (F1 9) = _; exact hF_k h9 c_14) (by show (F1 10) = _; rw [cn_f hpa]; exact h10) (by show ((F1 11) + (nI 1)) = _; rw [cn_t hpb, h11, nI_add]) hB hl
                · refine lv_iload hE.x hE.b dX9_hear_151 (lv_at hl 0 rfl) ?_
                  refine lv_goto (tgt := 160) hE.x hE.b dX9_hear_153 (by decide) ?_
                  refine z_put (v := .int (nI i)) (ty := .int) (ws' := mW g o a (upd (upd (upd F1 6 (F1 6)) 7 (nI i)) 9 (nI i)) L A ++ X) hE hB inX9 tyX9 tyX9_ok nmX9 0 rfl rfl 9 (by decide) q4_10 (fun _ h9 => h9) rfl (by decide +kernel) rfl rfl (Nat.le_of_ble_eq_true rfl) rfl dX9_hear_160 (fun H locs hB => ?_)
                  refine lv_aload_n hE.x hE.b dX9_hear_163 rfl (lv_at hl 1 rfl) ?_
                  refine lv_dup hE.x hE.b dX9_hear_164 rfl ?_
                  refine z_get (v := .int (F1 11)) hE hB inX9 0 rfl rfl 11 (by decide) q4_12 (fun _ h9 => h9) rfl dX9_hear_165 ?_
                  refine lv_iconst (v := nI 1) hE.x hE.b dX9_hear_168 rfl ?_
                  refine lv_iadd hE.x hE.b dX9_hear_169 ?_
                  refine z_put (v := .int ((F1 11) + (nI 1))) (ty := .int) (ws' := mW g o a (upd (upd (upd (upd F1 6 (F1 6)) 7 (nI i)) 9 (nI i)) 11 ((F1 11) + (nI 1))) L A ++ X) hE hB inX9 tyX9 tyX9_ok nmX9 0 rfl rfl 11 (by decide) q4_12 (fun _ h9 => h9) rfl (by decide +kernel) rfl rfl (Nat.le_of_ble_eq_true rfl) rfl dX9_hear_170 (fun H locs hB => ?_)
                  refine lv_iinc (v := (nI (i + 1))) (lv' := [(7, .int (nI (i + 1))), (0, .ref o), (1, .int tw), (2, .int ac), (3, .int dd), (4, .int dy), (5, .int sh), (6, .int (nI S))]) hE.x hE.b dX9_hear_173 hl (k := 0) rfl (nI_add _ _) (by decide) rfl (fun ls hl => ?_)
                  refine lv_goto (tgt := 33) hE.x hE.b dX9_hear_176 (by decide) ?_
                  exact ih33 (i + 1) (upd (upd (upd (upd F1 6 (F1 6)) 7 (nI i)) 9 (nI i)) 11 ((F1 11) + (nI 1))) _ _ _ (by omega) (by omega) (by show F1 16 = _; exact h16) (by show (F1 6) = _; exact hF_k h6 c_8) (by show (nI i) = _; rw [hL_t hp]; rfl) (by show (F1 8) = _; rw [hF_f hpa]; exact h8) (by show (nI i) = _; exact hF_m h9 hpb (by omega) c_14) (by show (F1 10) = _; rw [cn_f hpa]; exact h10) (by show ((F1 11) + (nI 1)) = _; rw [cn_t hpb, h11, nI_add]) hB hl
              · have hpa : hA (A 0) (hP (A 0) S tw ac dd dy sh) i = true := by unfold hA; rw [c_13, hp]; rfl
                have hpb : hB' (A 0) (hP (A 0) S tw ac dd dy sh) i = false := by unfold hB'; rw [c_13]; exact Bool.and_false _
                refine lv_aload_n hE.x hE.b dX9_hear_108 rfl (lv_at hl 1 rfl) ?_
                refine lv_aload_n hE.x hE.b dX9_hear_109 rfl (lv_at hl 1 rfl) ?_
                refine z_get (v := .int (F1 8)) hE hB inX9 0 rfl rfl 8 (by decide) q4_9 (fun _ h9 => h9) rfl dX9_hear_110 ?_
                refine lv_iconst (v := (-1)) hE.x hE.b dX9_hear_113 rfl ?_
                refine lv_icmp_ne (tgt := 122) hE.x hE.b dX9_hear_114 (by decide) (fun c_15 => ?_) (fun c_15 => ?_)
                · refine lv_aload_n hE.x hE.b dX9_hear_122 rfl (lv_at hl 1 rfl) ?_
                  refine z_get (v := .int (F1 8)) hE hB inX9 0 rfl rfl 8 (by decide) q4_9 (fun _ h9 => h9) rfl dX9_hear_123 ?_
                  refine z_put (v := .int (F1 8)) (ty := .int) (ws' := mW g o a (upd (upd (upd F1 6 (F1 6)) 7 (nI i)) 8 (F1 8)) L A ++ X) hE hB inX9 tyX9 tyX9_ok nmX9 0 rfl rfl 8 (by decide) q4_9 (fun _ h9 => h9) rfl (by decide +kernel) rfl rfl (Nat.le_of_ble_eq_true rfl) rfl dX9_hear_126 (fun H locs hB => ?_)
                  refine lv_aload_n hE.x hE.b dX9_hear_129 rfl (lv_at hl 1 rfl) ?_
                  refine lv_dup hE.x hE.b dX9_hear_130 rfl ?_
                  refine z_get (v := .int (F1 10)) hE hB inX9 0 rfl rfl 10 (by decide) q4_11 (fun _ h9 => h9) rfl dX9_hear_131 ?_
                  refine lv_iconst (v := nI 1) hE.x hE.b dX9_hear_134 rfl ?_
                  refine lv_iadd hE.x hE.b dX9_hear_135 ?_
                  refine z_put (v := .int ((F1 10) + (nI 1))) (ty := .int) (ws' := mW g o a (upd (upd (upd (upd F1 6 (F1 6)) 7 (nI i)) 8 (F1 8)) 10 ((F1 10) + (nI 1))) L A ++ X) hE hB inX9 tyX9 tyX9_ok nmX9 0 rfl rfl 10 (by decide) q4_11 (fun _ h9 => h9) rfl (by decide +kernel) rfl rfl (Nat.le_of_ble_eq_true rfl) rfl dX9_hear_136 (fun H locs hB => ?_)
                  refine lv_goto (tgt := 173) hE.x hE.b dX9_hear_139 (by decide) ?_
                  refine lv_iinc (v := (nI (i + 1))) (lv' := [(7, .int (nI (i + 1))), (0, .ref o), (1, .int tw), (2, .int ac), (3, .int dd), (4, .int dy), (5, .int sh), (6, .int (nI S))]) hE.x hE.b dX9_hear_173 hl (k := 0) rfl (nI_add _ _) (by decide) rfl (fun ls hl => ?_)
                  refine lv_goto (tgt := 33) hE.x hE.b dX9_hear_176 (by decide) ?_
                  exact ih33 (i + 1) (upd (upd (upd (upd F1 6 (F1 6)) 7 (nI i)) 8 (F1 8)) 10 ((F1 10) + (nI 1))) _ _ _ (by omega) (by omega) (by show F1 16 = _; exact h16) (by show (F1 6) = _; exact hF_k h6 c_8) (by show (nI i) = _; rw [hL_t hp]; rfl) (by show (F1 8) = _; exact hF_k h8 c_15) (by show (F1 9) = _; rw [hF_f hpb]; exact h9) (by show ((F1 10) + (nI 1)) = _; rw [cn_t hpa, h10, nI_add]) (by show (F1 11) = _; rw [cn_f hpb]; exact h11) hB hl
                · refine lv_iload hE.x hE.b dX9_hear_117 (lv_at hl 0 rfl) ?_
                  refine lv_goto (tgt := 126) hE.x hE.b dX9_hear_119 (by decide) ?_
                  refine z_put (v := .int (nI i)) (ty := .int) (ws' := mW g o a (upd (upd (upd F1 6 (F1 6)) 7 (nI i)) 8 (nI i)) L A ++ X) hE hB inX9 tyX9 tyX9_ok nmX9 0 rfl rfl 8 (by decide) q4_9 (fun _ h9 => h9) rfl (by decide +kernel) rfl rfl (Nat.le_of_ble_eq_true rfl) rfl dX9_hear_126 (fun H locs hB => ?_)
                  refine lv_aload_n hE.x hE.b dX9_hear_129 rfl (lv_at hl 1 rfl) ?_
                  refine lv_dup hE.x hE.b dX9_hear_130 rfl ?_
                  refine z_get (v := .int (F1 10)) hE hB inX9 0 rfl rfl 10 (by decide) q4_11 (fun _ h9 => h9) rfl dX9_hear_131 ?_
                  refine lv_iconst (v := nI 1) hE.x hE.b dX9_hear_134 rfl ?_
                  refine lv_iadd hE.x hE.b dX9_hear_135 ?_
                  refine z_put (v := .int ((F1 10) + (nI 1))) (ty := .int) (ws' := mW g o a (upd (upd (upd (upd F1 6 (F1 6)) 7 (nI i)) 8 (nI i)) 10 ((F1 10) + (nI 1))) L A ++ X) hE hB inX9 tyX9 tyX9_ok nmX9 0 rfl rfl 10 (by decide) q4_11 (fun _ h9 => h9) rfl (by decide +kernel) rfl rfl (Nat.le_of_ble_eq_true rfl) rfl dX9_hear_136 (fun H locs hB => ?_)
                  refine lv_goto (tgt := 173) hE.x hE.b dX9_hear_139 (by decide) ?_
                  refine lv_iinc (v := (nI (i + 1))) (lv' := [(7, .int (nI (i + 1))), (0, .ref o), (1, .int tw), (2, .int ac), (3, .int dd), (4, .int dy), (5, .int sh), (6, .int (nI S))]) hE.x hE.b dX9_hear_173 hl (k := 0) rfl (nI_add _ _) (by decide) rfl (fun ls hl => ?_)
                  refine lv_goto (tgt := 33) hE.x hE.b dX9_hear_176 (by decide) ?_
                  exact ih33 (i + 1) (upd (upd (upd (upd F1 6 (F1 6)) 7 (nI i)) 8 (nI i)) 10 ((F1 10) + (nI 1))) _ _ _ (by omega) (by omega) (by show F1 16 = _; exact h16) (by show (F1 6) = _; exact hF_k h6 c_8) (by show (nI i) = _; rw [hL_t hp]; rfl) (by show (nI i) = _; exact hF_m h8 hpa (by omega) c_15) (by show (F1 9) = _; rw [hF_f hpb]; exact h9) (by show ((F1 10) + (nI 1)) = _; rw [cn_t hpa, h10, nI_add]) (by show (F1 11) = _; rw [cn_f hpb]; exact h11) hB hl
            · refine lv_iload hE.x hE.b dX9_hear_77 (lv_at hl 0 rfl) ?_
              refine lv_goto (tgt := 86) hE.x hE.b dX9_hear_79 (by decide) ?_
              refine z_put (v := .int (nI i)) (ty := .int) (ws' := mW g o a (upd F1 6 (nI i)) L A ++ X) hE hB inX9 tyX9 tyX9_ok nmX9 0 rfl rfl 6 (by decide) q4_7 (fun _ h9 => h9) rfl (by decide +kernel) rfl rfl (Nat.le_of_ble_eq_true rfl) rfl dX9_hear_86 (fun H locs hB => ?_)
              refine lv_aload_n hE.x hE.b dX9_hear_89 rfl (lv_at hl 1 rfl) ?_
              refine lv_iload hE.x hE.b dX9_hear_90 (lv_at hl 0 rfl) ?_
              refine z_put (v := .int (nI i)) (ty := .int) (ws' := mW g o a (upd (upd F1 6 (nI i)) 7 (nI i)) L A ++ X) hE hB inX9 tyX9 tyX9_ok nmX9 0 rfl rfl 7 (by decide) q4_8 (fun _ h9 => h9) rfl (by decide +kernel) rfl rfl (Nat.le_of_ble_eq_true rfl) rfl dX9_hear_92 (fun H locs hB => ?_)
              refine lv_aload_n hE.x hE.b dX9_hear_95 rfl (lv_at hl 1 rfl) ?_
              refine lv_iload hE.x hE.b dX9_hear_96 (lv_at hl 0 rfl) ?_
              refine lv_iconst (v := nI 0) hE.x hE.b dX9_hear_98 rfl ?_
              refine z_qi hB (z_cV hE hB (c_X9_has l g o a (upd (upd F1 6 (nI i)) 7 (nI i)) L A X i 0 (by omega) (by omega)) q4_155 kX9_has ⟨rfl, rfl⟩ ⟨Nat.le_of_ble_eq_true rfl, Nat.le_of_ble_eq_true rfl⟩ 0 rfl rfl rfl hl.1 rfl (Nat.le_of_ble_eq_true rfl) dX9_hear_99 ⟨Nat.le_of_ble_eq_true rfl, Nat.le_of_ble_eq_true rfl⟩) (fun r_16 w_17 H locs hw hB => ?_)
              obtain ⟨hr9, hw9⟩ := hw
              have hr9 := hr9.symm
              subst hr9
              have hw9 := hw9.symm
              subst hw9
              refine z_qi hB (z_cS hE hB (c_X9_allows l g (A 0 (46 + 5 * i + 0)) (mW g o a (upd (upd F1 6 (nI i)) 7 (nI i)) L A ++ X)) q4_159 kX9_allows ⟨rfl, rfl⟩ ⟨Nat.le_of_ble_eq_true rfl, Nat.le_of_ble_eq_true rfl⟩ rfl hl.1 rfl (Nat.le_of_ble_eq_true rfl) dX9_hear_102 ⟨Nat.le_of_ble_eq_true rfl, Nat.le_of_ble_eq_true rfl⟩) (fun r_18 w_19 H locs hw hB => ?_)
              obtain ⟨hr9, hw9⟩ := hw
              have hr9 := hr9.symm
              subst hr9
              have hw9 := hw9.symm
              subst hw9
              refine z_bf (b := (alw (A 0 (46 + 5 * i + 0)))) (tgt := 142) hE dX9_hear_105 (by decide) (fun c_20 => ?_) (fun c_20 => ?_)
              · have hpa : hA (A 0) (hP (A 0) S tw ac dd dy sh) i = false := by unfold hA; rw [c_20]; exact Bool.and_false _
                have hpb : hB' (A 0) (hP (A 0) S tw ac dd dy sh) i = true := by unfold hB'; rw [c_20, hp]; rfl
                refine lv_aload_n hE.x hE.b dX9_hear_142 rfl (lv_at hl 1 rfl) ?_
                refine lv_aload_n hE.x hE.b dX9_hear_143 rfl (lv_at hl 1 rfl) ?_
                refine z_get (v := .int (F1 9)) hE hB inX9 0 rfl rfl 9 (by decide) q4_10 (fun _ h9 => h9) rfl dX9_hear_144 ?_
                refine lv_iconst (v := (-1)) hE.x hE.b dX9_hear_147 rfl ?_
                refine lv_icmp_ne (tgt := 156) hE.x hE.b dX9_hear_148 (by decide) (fun c_21 => ?_) (fun c_21 => ?_)
                · refine lv_aload_n hE.x hE.b dX9_hear_156 rfl (lv_at hl 1 rfl) ?_
                  refine z_get (v := .int (F1 9)) hE hB inX9 0 rfl rfl 9 (by decide) q4_10 (fun _ h9 => h9) rfl dX9_hear_157 ?_
                  refine z_put (v := .int (F1 9)) (ty := .int) (ws' := mW g o a (upd (upd (upd F1 6 (nI i)) 7 (nI i)) 9 (F1 9)) L A ++ X) hE hB inX9 tyX9 tyX9_ok nmX9 0 rfl rfl 9 (by decide) q4_10 (fun _ h9 => h9) rfl (by decide +kernel) rfl rfl (Nat.le_of_ble_eq_true rfl) rfl dX9_hear_160 (fun H locs hB => ?_)
                  refine lv_aload_n hE.x hE.b dX9_hear_163 rfl (lv_at hl 1 rfl) ?_
                  refine lv_dup hE.x hE.b dX9_hear_164 rfl ?_
                  refine z_get (v := .int (F1 11)) hE hB inX9 0 rfl rfl 11 (by decide) q4_12 (fun _ h9 => h9) rfl dX9_hear_165 ?_
                  refine lv_iconst (v := nI 1) hE.x hE.b dX9_hear_168 rfl ?_
                  refine lv_iadd hE.x hE.b dX9_hear_169 ?_
                  refine z_put (v := .int ((F1 11) + (nI 1))) (ty := .int) (ws' := mW g o a (upd (upd (upd (upd F1 6 (nI i)) 7 (nI i)) 9 (F1 9)) 11 ((F1 11) + (nI 1))) L A ++ X) hE hB inX9 tyX9 tyX9_ok nmX9 0 rfl rfl 11 (by decide) q4_12 (fun _ h9 => h9) rfl (by decide +kernel) rfl rfl (Nat.le_of_ble_eq_true rfl) rfl dX9_hear_170 (fun H locs hB => ?_)
                  refine lv_iinc (v := (nI (i + 1))) (lv' := [(7, .int (nI (i + 1))), (0, .ref o), (1, .int tw), (2, .int ac), (3, .int dd), (4, .int dy), (5, .int sh), (6, .int (nI S))]) hE.x hE.b dX9_hear_173 hl (k := 0) rfl (nI_add _ _) (by decide) rfl (fun ls hl => ?_)
                  refine lv_goto (tgt := 33) hE.x hE.b dX9_hear_176 (by decide) ?_
                  exact ih33 (i + 1) (upd (upd (upd (upd F1 6 (nI i)) 7 (nI i)) 9 (F1 9)) 11 ((F1 11) + (nI 1))) _ _ _ (by omega) (by omega) (by show F1 16 = _; exact h16) (by show (nI i) = _; exact hF_m h6 hp (by omega) c_8) (by show (nI i) = _; rw [hL_t hp]; rfl) (by show (F1 8) = _; rw [hF_f hpa]; exact h8) (by show (F1 9) = _; exact hF_k h9 c_21) (by show (F1 10) = _; rw [cn_f hpa]; exact h10) (by show ((F1 11) + (nI 1)) = _; rw [cn_t hpb, h11, nI_add]) hB hl
                · refine lv_iload hE.x hE.b dX9_hear_151 (lv_at hl 0 rfl) ?_
                  refine lv_goto (tgt := 160) hE.x hE.b dX9_hear_153 (by decide) ?_
                  refine z_put (v := .int (nI i)) (ty := .int) (ws' := mW g o a (upd (upd (upd F1 6 (nI i)) 7 (nI i)) 9 (nI i)) L A ++ X) hE hB inX9 tyX9 tyX9_ok nmX9 0 rfl rfl 9 (by decide) q4_10 (fun _ h9 => h9) rfl (by decide +kernel) rfl rfl (Nat.le_of_ble_eq_true rfl) rfl dX9_hear_160 (fun H locs hB => ?_)
                  refine lv_aload_n hE.x hE.b dX9_hear_163 rfl (lv_at hl 1 rfl) ?_
                  refine lv_dup hE.x hE.b dX9_hear_164 rfl ?_
                  refine z_get (v := .int (F1 11)) hE hB inX9 0 rfl rfl 11 (by decide) q4_12 (fun _ h9 => h9) rfl dX9_hear_165 ?_
                  refine lv_iconst (v := nI 1) hE.x hE.b dX9_hear_168 rfl ?_
                  refine lv_iadd hE.x hE.b dX9_hear_169 ?_
                  refine z_put (v := .int ((F1 11) + (nI 1))) (ty := .int) (ws' := mW g o a (upd (upd (upd (upd F1 6 (nI i)) 7 (nI i)) 9 (nI i)) 11 ((F1 11) + (nI 1))) L A ++ X) hE hB inX9 tyX9 tyX9_ok nmX9 0 rfl rfl 11 (by decide) q4_12 (fun _ h9 => h9) rfl (by decide +kernel) rfl rfl (Nat.le_of_ble_eq_true rfl) rfl dX9_hear_170 (fun H locs hB => ?_)
                  refine lv_iinc (v := (nI (i + 1))) (lv' := [(7, .int (nI (i + 1))), (0, .ref o), (1, .int tw), (2, .int ac), (3, .int dd), (4, .int dy), (5, .int sh), (6, .int (nI S))]) hE.x hE.b dX9_hear_173 hl (k := 0) rfl (nI_add _ _) (by decide) rfl (fun ls hl => ?_)
                  refine lv_goto (tgt := 33) hE.x hE.b dX9_hear_176 (by decide) ?_
                  exact ih33 (i + 1) (upd (upd (upd (upd F1 6 (nI i)) 7 (nI i)) 9 (nI i)) 11 ((F1 11) + (nI 1))) _ _ _ (by omega) (by omega) (by show F1 16 = _; exact h16) (by show (nI i) = _; exact hF_m h6 hp (by omega) c_8) (by show (nI i) = _; rw [hL_t hp]; rfl) (by show (F1 8) = _; rw [hF_f hpa]; exact h8) (by show (nI i) = _; exact hF_m h9 hpb (by omega) c_21) (by show (F1 10) = _; rw [cn_f hpa]; exact h10) (by show ((F1 11) + (nI 1)) = _; rw [cn_t hpb, h11, nI_add]) hB hl
              · have hpa : hA (A 0) (hP (A 0) S tw ac dd dy sh) i = true := by unfold hA; rw [c_20, hp]; rfl
                have hpb : hB' (A 0) (hP (A 0) S tw ac dd dy sh) i = false := by unfold hB'; rw [c_20]; exact Bool.and_false _
                refine lv_aload_n hE.x hE.b dX9_hear_108 rfl (lv_at hl 1 rfl) ?_
                refine lv_aload_n hE.x hE.b dX9_hear_109 rfl (lv_at hl 1 rfl) ?_
                refine z_get (v := .int (F1 8)) hE hB inX9 0 rfl rfl 8 (by decide) q4_9 (fun _ h9 => h9) rfl dX9_hear_110 ?_
                refine lv_iconst (v := (-1)) hE.x hE.b dX9_hear_113 rfl ?_
                refine lv_icmp_ne (tgt := 122) hE.x hE.b dX9_hear_114 (by decide) (fun c_22 => ?_) (fun c_22 => ?_)
                · refine lv_aload_n hE.x hE.b dX9_hear_122 rfl (lv_at hl 1 rfl) ?_
                  refine z_get (v := .int (F1 8)) hE hB inX9 0 rfl rfl 8 (by decide) q4_9 (fun _ h9 => h9) rfl dX9_hear_123 ?_
                  refine z_put (v := .int (F1 8)) (ty := .int) (ws' := mW g o a (upd (upd (upd F1 6 (nI i)) 7 (nI i)) 8 (F1 8)) L A ++ X) hE hB inX9 tyX9 tyX9_ok nmX9 0 rfl rfl 8 (by decide) q4_9 (fun _ h9 => h9) rfl (by decide +kernel) rfl rfl (Nat.le_of_ble_eq_true rfl) rfl dX9_hear_126 (fun H locs hB => ?_)
                  refine lv_aload_n hE.x hE.b dX9_hear_129 rfl (lv_at hl 1 rfl) ?_
                  refine lv_dup hE.x hE.b dX9_hear_130 rfl ?_
                  refine z_get (v := .int (F1 10)) hE hB inX9 0 rfl rfl 10 (by decide) q4_11 (fun _ h9 => h9) rfl dX9_hear_131 ?_
                  refine lv_iconst (v := nI 1) hE.x hE.b dX9_hear_134 rfl ?_
                  refine lv_iadd hE.x hE.b dX9_hear_135 ?_
                  refine z_put (v := .int ((F1 10) + (nI 1))) (ty := .int) (ws' := mW g o a (upd (upd (upd (upd F1 6 (nI i)) 7 (nI i)) 8 (F1 8)) 10 ((F1 10) + (nI 1))) L A ++ X) hE hB inX9 tyX9 tyX9_ok nmX9 0 rfl rfl 10 (by decide) q4_11 (fun _ h9 => h9) rfl (by decide +kernel) rfl rfl (Nat.le_of_ble_eq_true rfl) rfl dX9_hear_136 (fun H locs hB => ?_)
                  refine lv_goto (tgt := 173) hE.x hE.b dX9_hear_139 (by decide) ?_
                  refine lv_iinc (v := (nI (i + 1))) (lv' := [(7, .int (nI (i + 1))), (0, .ref o), (1, .int tw), (2, .int ac), (3, .int dd), (4, .int dy), (5, .int sh), (6, .int (nI S))]) hE.x hE.b dX9_hear_173 hl (k := 0) rfl (nI_add _ _) (by decide) rfl (fun ls hl => ?_)
                  refine lv_goto (tgt := 33) hE.x hE.b dX9_hear_176 (by decide) ?_
                  exact ih33 (i + 1) (upd (upd (upd (upd F1 6 (nI i)) 7 (nI i)) 8 (F1 8)) 10 ((F1 10) + (nI 1))) _ _ _ (by omega) (by omega) (by show F1 16 = _; exact h16) (by show (nI i) = _; exact hF_m h6 hp (by omega) c_8) (by show (nI i) = _; rw [hL_t hp]; rfl) (by show (F1 8) = _; exact hF_k h8 c_22) (by show (F1 9) = _; rw [hF_f hpb]; exact h9) (by show ((F1 10) + (nI 1)) = _; rw [cn_t hpa, h10, nI_add]) (by show (F1 11) = _; rw [cn_f hpb]; exact h11) hB hl
                · refine lv_iload hE.x hE.b dX9_hear_117 (lv_at hl 0 rfl) ?_
                  refine lv_goto (tgt := 126) hE.x hE.b dX9_hear_119 (by decide) ?_
                  refine z_put (v := .int (nI i)) (ty := .int) (ws' := mW g o a (upd (upd (upd F1 6 (nI i)) 7 (nI i)) 8 (nI i)) L A ++ X) hE hB inX9 tyX9 tyX9_ok nmX9 0 rfl rfl 8 (by decide) q4_9 (fun _ h9 => h9) rfl (by decide +kernel) rfl rfl (Nat.le_of_ble_eq_true rfl) rfl dX9_hear_126 (fun H locs hB => ?_)
                  refine lv_aload_n hE.x hE.b dX9_hear_129 rfl (lv_at hl 1 rfl) ?_
                  refine lv_dup hE.x hE.b dX9_hear_130 rfl ?_
                  refine z_get (v := .int (F1 10)) hE hB inX9 0 rfl rfl 10 (by decide) q4_11 (fun _ h9 => h9) rfl dX9_hear_131 ?_
                  refine lv_iconst (v := nI 1) hE.x hE.b dX9_hear_134 rfl ?_
                  refine lv_iadd hE.x hE.b dX9_hear_135 ?_
                  refine z_put (v := .int ((F1 10) + (nI 1))) (ty := .int) (ws' := mW g o a (upd (upd (upd (upd F1 6 (nI i)) 7 (nI i)) 8 (nI i)) 10 ((F1 10) + (nI 1))) L A ++ X) hE hB inX9 tyX9 tyX9_ok nmX9 0 rfl rfl 10 (by decide) q4_11 (fun _ h9 => h9) rfl (by decide +kernel) rfl rfl (Nat.le_of_ble_eq_true rfl) rfl dX9_hear_136 (fun H locs hB => ?_)
                  refine lv_goto (tgt := 173) hE.x hE.b dX9_hear_139 (by decide) ?_
                  refine lv_iinc (v := (nI (i + 1))) (lv' := [(7, .int (nI (i + 1))), (0, .ref o), (1, .int tw), (2, .int ac), (3, .int dd), (4, .int dy), (5, .int sh), (6, .int (nI S))]) hE.x hE.b dX9_hear_173 hl (k := 0) rfl (nI_add _ _) (by decide) rfl (fun ls hl => ?_)
                  refine lv_goto (tgt := 33) hE.x hE.b dX9_hear_176 (by decide) ?_
                  exact ih33 (i + 1) (upd (upd (upd (upd F1 6 (nI i)) 7 (nI i)) 8 (nI i)) 10 ((F1 10) + (nI 1))) _ _ _ (by omega) (by omega) (by show F1 16 = _; exact h16) (by show (nI i) = _; exact hF_m h6 hp (by omega) c_8) (by show (nI i) = _; rw [hL_t hp]; rfl) (by show (nI i) = _; exact hF_m h8 hpa (by omega) c_22) (by show (F1 9) = _; rw [hF_f hpb]; exact h9) (by show ((F1 10) + (nI 1)) = _; rw [cn_t hpa, h10, nI_add]) (by show (F1 11) = _; rw [cn_f hpb]; exact h11) hB hl
  exact k33 (C - 0 + 1) 0 (upd (upd (upd (upd (upd (upd F 6 (-1)) 7 (-1)) 8 (-1)) 9 (-1)) 10 (nI 0)) 11 (nI 0)) _ _ _ (Nat.lt_succ_self _) (by omega) (by rfl) (by rfl) (by rfl) (by rfl) (by rfl) (by rfl) (by rfl) hB hl

set_option maxHeartbeats 4000000 in
set_option maxRecDepth 100000 in
theorem c_X9_decides (l : Launch) (g : zG) (o : Nat) (a : Nat → Nat) (F : Nat → Int32) (L : Nat → Int64) (A : Nat → Nat → Int32) (X : va_W) (rd : Int32)  : Met l yX9_decides (Cond.code yX9_decides cX9_decides 2 (some .int) :: TBL) { frames := 0, cells := 0, slots := 0, locals := 0 } (zPc [.ref o, .int rd] g (mW g o a F L A ++ X)) (zQi g (fun r ws => r = (dcF rd F) ∧ ws = mW g o a F L A ++ X)) 0 0 (zA (gz g)) := by
  refine z_start (by decide +kernel) rfl (Nat.le_of_ble_eq_true rfl) ?_
  intro p e s m args below meth c ls hE hr hnm hB hl
  have hl : lv_has ls 2 [(0, .ref o), (1, .int rd)] := hl
  revert hB
  generalize s.heap = H
  generalize ([] : List Loc) = locs
  intro hB
  refine lv_iload_n hE.x hE.b dX9_decides_0 rfl (lv_at hl 1 rfl) ?_
  by_cases e_1 : rd = nI 0
  · refine lv_tableIn (tgt := 28) hE.x hE.b dX9_decides_1 (by rw [e_1]; decide) (by rw [e_1]; decide) (by rw [e_1]; rfl) (by decide) ?_
    refine lv_aload_n hE.x hE.b dX9_decides_28 rfl (lv_at hl 0 rfl) ?_
    refine z_get (v := .int (F 6)) hE hB inX9 0 rfl rfl 6 (by decide) q4_7 (fun _ h9 => h9) rfl dX9_decides_29 ?_
    exact z_iret (v := (F 6)) (ws := mW g o a F L A ++ X) hE hB hr (⟨by unfold dcF; rw [if_pos e_1], rfl⟩) dX9_decides_32
  by_cases e_2 : rd = nI 1
  · refine lv_tableIn (tgt := 33) hE.x hE.b dX9_decides_1 (by rw [e_2]; decide) (by rw [e_2]; decide) (by rw [e_2]; rfl) (by decide) ?_
    refine lv_aload_n hE.x hE.b dX9_decides_33 rfl (lv_at hl 0 rfl) ?_
    refine z_get (v := .int (F 7)) hE hB inX9 0 rfl rfl 7 (by decide) q4_8 (fun _ h9 => h9) rfl dX9_decides_34 ?_
    exact z_iret (v := (F 7)) (ws := mW g o a F L A ++ X) hE hB hr (⟨by unfold dcF; rw [if_neg e_1, if_pos e_2], rfl⟩) dX9_decides_37
  by_cases e_3 : rd = nI 2
  · refine lv_tableIn (tgt := 38) hE.x hE.b dX9_decides_1 (by rw [e_3]; decide) (by rw [e_3]; decide) (by rw [e_3]; rfl) (by decide) ?_
    refine lv_aload_n hE.x hE.b dX9_decides_38 rfl (lv_at hl 0 rfl) ?_
    refine z_get (v := .int (F 8)) hE hB inX9 0 rfl rfl 8 (by decide) q4_9 (fun _ h9 => h9) rfl dX9_decides_39 ?_
    refine lv_iconst (v := (-1)) hE.x hE.b dX9_decides_42 rfl ?_
    refine lv_icmp_eq (tgt := 53) hE.x hE.b dX9_decides_43 (by decide) (fun c_4 => ?_) (fun c_4 => ?_)
    · refine lv_aload_n hE.x hE.b dX9_decides_53 rfl (lv_at hl 0 rfl) ?_
      refine z_get (v := .int (F 6)) hE hB inX9 0 rfl rfl 6 (by decide) q4_7 (fun _ h9 => h9) rfl dX9_decides_54 ?_
      exact z_iret (v := (F 6)) (ws := mW g o a F L A ++ X) hE hB hr (⟨by unfold dcF; rw [if_neg e_1, if_neg e_2, if_pos e_3, if_pos c_4], rfl⟩) dX9_decides_57
    · refine lv_aload_n hE.x hE.b dX9_decides_46 rfl (lv_at hl 0 rfl) ?_
      refine z_get (v := .int (F 8)) hE hB inX9 0 rfl rfl 8 (by decide) q4_9 (fun _ h9 => h9) rfl dX9_decides_47 ?_
      refine lv_goto (tgt := 57) hE.x hE.b dX9_decides_50 (by decide) ?_
      exact z_iret (v := (F 8)) (ws := mW g o a F L A ++ X) hE hB hr (⟨by unfold dcF; rw [if_neg e_1, if_neg e_2, if_pos e_3, if_neg c_4], rfl⟩) dX9_decides_57
  refine lv_tableOut (tgt := 58) hE.x hE.b dX9_decides_1 (by have g0 := ne_toInt e_1 (by decide); have g1 := ne_toInt e_2 (by decide); have g2 := ne_toInt e_3 (by decide); omega) (by decide) ?_
  refine lv_aload_n hE.x hE.b dX9_decides_58 rfl (lv_at hl 0 rfl) ?_
  refine z_get (v := .int (F 10)) hE hB inX9 0 rfl rfl 10 (by decide) q4_11 (fun _ h9 => h9) rfl dX9_decides_59 ?_
  refine lv_aload_n hE.x hE.b dX9_decides_62 rfl (lv_at hl 0 rfl) ?_
  refine z_get (v := .int (F 11)) hE hB inX9 0 rfl rfl 11 (by decide) q4_12 (fun _ h9 => h9) rfl dX9_decides_63 ?_
  refine z_le (tgt := 76) (X := (F 10).toInt) (Y := (F 11).toInt) hE dX9_decides_66 (by decide) rfl rfl (fun c_5 => ?_) (fun c_5 => ?_)
  · refine lv_aload_n hE.x hE.b dX9_decides_76 rfl (lv_at hl 0 rfl) ?_
    refine z_get (v := .int (F 9)) hE hB inX9 0 rfl rfl 9 (by decide) q4_10 (fun _ h9 => h9) rfl dX9_decides_77 ?_
    exact z_iret (v := (F 9)) (ws := mW g o a F L A ++ X) hE hB hr (⟨by unfold dcF; rw [if_neg e_1, if_neg e_2, if_neg e_3, if_neg (by omega)], rfl⟩) dX9_decides_80
  · refine lv_aload_n hE.x hE.b dX9_decides_69 rfl (lv_at hl 0 rfl) ?_
    refine z_get (v := .int (F 8)) hE hB inX9 0 rfl rfl 8 (by decide) q4_9 (fun _ h9 => h9) rfl dX9_decides_70 ?_
    refine lv_goto (tgt := 80) hE.x hE.b dX9_decides_73 (by decide) ?_
    exact z_iret (v := (F 8)) (ws := mW g o a F L A ++ X) hE hB hr (⟨by unfold dcF; rw [if_neg e_1, if_neg e_2, if_neg e_3, if_pos (by omega)], rfl⟩) dX9_decides_80

set_option maxHeartbeats 4000000 in
set_option maxRecDepth 100000 in
theorem c_X9_decidesIn (l : Launch) (g : zG) (o : Nat) (a : Nat → Nat) (F : Nat → Int32) (L : Nat → Int64) (A : Nat → Nat → Int32) (X : va_W) (C : Nat) (t : Nat) (ac : Int32) (dd : Int32) (dy : Int32) (sh : Int32) (S : Nat) (hC : A 0 1 = nI C) (hC8 : C ≤ 8) (ht : t < 6) (hS : S < 256) : Met l yX9_decidesIn (Cond.code yX9_decidesIn cX9_decidesIn 7 (some .int) :: TBL) { frames := 4, cells := 0, slots := 0, locals := 101 } (zPc [.ref o, .int (nI t), .int ac, .int dd, .int dy, .int sh, .int (nI S)] g (mW g o a F L A ++ X)) (zQi g (fun r ws => ∃ (F1 : Nat → Int32), r = (oI (decN (A 0) C t ac dd dy sh S)) ∧ ws = mW g o a F1 L A ++ X ∧ F1 16 = F 16)) 0 0 (zA (gz g)) := by
  refine z_start (by decide +kernel) rfl (Nat.le_of_ble_eq_true rfl) ?_
  intro p e s m args below meth c ls hE hr hnm hB hl
  have hl : lv_has ls 7 [(0, .ref o), (1, .int (nI t)), (2, .int ac), (3, .int dd), (4, .int dy), (5, .int sh), (6, .int (nI S))] := hl
  revert hB
  generalize s.heap = H
  generalize ([] : List Loc) = locs
  intro hB
  refine lv_aload_n hE.x hE.b dX9_decidesIn_0 rfl (lv_at hl 0 rfl) ?_
  refine lv_iload_n hE.x hE.b dX9_decidesIn_1 rfl (lv_at hl 1 rfl) ?_
  refine lv_iload_n hE.x hE.b dX9_decidesIn_2 rfl (lv_at hl 2 rfl) ?_
  refine lv_iload_n hE.x hE.b dX9_decidesIn_3 rfl (lv_at hl 3 rfl) ?_
  refine lv_iload hE.x hE.b dX9_decidesIn_4 (lv_at hl 4 rfl) ?_
  refine lv_iload hE.x hE.b dX9_decidesIn_6 (lv_at hl 5 rfl) ?_
  refine lv_iload hE.x hE.b dX9_decidesIn_8 (lv_at hl 6 rfl) ?_
  refine z_qv hB (z_cV hE hB (c_X9_hear l g o a F L A X C (nI t) ac dd dy sh S hC (by omega) (by omega)) q4_181 kX9_hear ⟨rfl, rfl⟩ ⟨Nat.le_of_ble_eq_true rfl, Nat.le_of_ble_eq_true rfl⟩ 0 rfl rfl rfl hl.1 rfl (Nat.le_of_ble_eq_true rfl) dX9_decidesIn_10 ⟨Nat.le_of_ble_eq_true rfl, Nat.le_of_ble_eq_true rfl⟩) (fun w_2 H locs hw hB => ?_)
  obtain ⟨F1_3, hw9, hf_4, hf_5, hf_6, hf_7, hf_8, hf_9, hf_10⟩ := hw
  have hw9 := hw9.symm
  subst hw9
  refine lv_aload_n hE.x hE.b dX9_decidesIn_13 rfl (lv_at hl 0 rfl) ?_
  refine lv_aload_n hE.x hE.b dX9_decidesIn_14 rfl (lv_at hl 0 rfl) ?_
  refine z_get (v := .ref (a 0)) hE hB inX9 0 rfl rfl 0 (by decide) q4_1 (fun _ h9 => h9) rfl dX9_decidesIn_15 ?_
  refine lv_iconst (v := nI 4) hE.x hE.b dX9_decidesIn_18 rfl ?_
  refine lv_iload_n hE.x hE.b dX9_decidesIn_19 rfl (lv_at hl 1 rfl) ?_
  refine z_iaddN hE dX9_decidesIn_20 ?_
  refine z_iald (k := (4 + t)) (f := (A 0)) hE hB 1 rfl (by omega) (by decide) dX9_decidesIn_21 ?_
  refine z_qi hB (z_cV hE hB (c_X9_decides l g o a F1_3 L A X ((A 0) (4 + t))) q4_189 kX9_decides ⟨rfl, rfl⟩ ⟨Nat.le_of_ble_eq_true rfl, Nat.le_of_ble_eq_true rfl⟩ 0 rfl rfl rfl hl.1 rfl (Nat.le_of_ble_eq_true rfl) dX9_decidesIn_22 ⟨Nat.le_of_ble_eq_true rfl, Nat.le_of_ble_eq_true rfl⟩) (fun r_11 w_12 H locs hw hB => ?_)
  obtain ⟨hr9, hw9⟩ := hw
  have hr9 := hr9.symm
  subst hr9
  have hw9 := hw9.symm
  subst hw9
  exact z_iret (v := (dcF ((A 0) (4 + t)) F1_3)) (ws := mW g o a F1_3 L A ++ X) hE hB hr (⟨F1_3, by exact dcF_eq hf_5 hf_6 hf_7 hf_8 hf_9 hf_10 (Nat.lt_of_le_of_lt (cn_le _ _) (by omega)) (Nat.lt_of_le_of_lt (cn_le _ _) (by omega)) (hF_32 hC8), rfl, hf_4⟩) dX9_decidesIn_25

set_option maxHeartbeats 4000000 in
set_option maxRecDepth 100000 in
theorem c_X9_isAllowed (l : Launch) (g : zG) (o : Nat) (a : Nat → Nat) (F : Nat → Int32) (L : Nat → Int64) (A : Nat → Nat → Int32) (X : va_W) (C : Nat) (t : Nat) (ac : Int32) (dd : Int32) (dy : Int32) (sh : Int32) (S : Nat) (hC : A 0 1 = nI C) (hC8 : C ≤ 8) (ht : t < 6) (hS : S < 256) : Met l yX9_isAllowed (Cond.code yX9_isAllowed cX9_isAllowed 8 (some .boolean) :: TBL) { frames := 5, cells := 0, slots := 0, locals := 127 } (zPc [.ref o, .int (nI t), .int ac, .int dd, .int dy, .int sh, .int (nI S)] g (mW g o a F L A ++ X)) (zQi g (fun r ws => ∃ (F1 : Nat → Int32), r = bI (isA (A 0) C t ac dd dy sh S) ∧ ws = mW g o a F1 L A ++ X ∧ F1 16 = F 16)) 0 0 (zA (gz g)) := by
  refine z_start (by decide +kernel) rfl (Nat.le_of_ble_eq_true rfl) ?_
  intro p e s m args below meth c ls hE hr hnm hB hl
  have hl : lv_has ls 8 [(0, .ref o), (1, .int (nI t)), (2, .int ac), (3, .int dd), (4, .int dy), (5, .int sh), (6, .int (nI S))] := hl
  revert hB
  generalize s.heap = H
  generalize ([] : List Loc) = locs
  intro hB
  refine lv_aload_n hE.x hE.b dX9_isAllowed_0 rfl (lv_at hl 0 rfl) ?_
  refine lv_iload_n hE.x hE.b dX9_isAllowed_1 rfl (lv_at hl 1 rfl) ?_
  refine lv_iload_n hE.x hE.b dX9_isAllowed_2 rfl (lv_at hl 2 rfl) ?_
  refine lv_iload_n hE.x hE.b dX9_isAllowed_3 rfl (lv_at hl 3 rfl) ?_
  refine lv_iload hE.x hE.b dX9_isAllowed_4 (lv_at hl 4 rfl) ?_
  refine lv_iload hE.x hE.b dX9_isAllowed_6 (lv_at hl 5 rfl) ?_
  refine lv_iload hE.x hE.b dX9_isAllowed_8 (lv_at hl 6 rfl) ?_
  refine z_qi hB (z_cV hE hB (c_X9_decidesIn l g o a F L A X C t ac dd dy sh S hC (by omega) (by omega) (by omega)) q4_177 kX9_decidesIn ⟨rfl, rfl⟩ ⟨Nat.le_of_ble_eq_true rfl, Nat.le_of_ble_eq_true rfl⟩ 0 rfl rfl rfl hl.1 rfl (Nat.le_of_ble_eq_true rfl) dX9_isAllowed_10 ⟨Nat.le_of_ble_eq_true rfl, Nat.le_of_ble_eq_true rfl⟩) (fun r_1 w_2 H locs hw hB => ?_)
  obtain ⟨F1_3, hr9, hw9, hf_4⟩ := hw
  have hr9 := hr9.symm
  subst hr9
  have hw9 := hw9.symm
  subst hw9
  refine lv_istore (lv' := [(7, .int (oI (decN (A 0) C t ac dd dy sh S))), (0, .ref o), (1, .int (nI t)), (2, .int ac), (3, .int dd), (4, .int dy), (5, .int sh), (6, .int (nI S))]) hE.x hE.b dX9_isAllowed_13 hl (by decide) rfl (fun ls hl => ?_)
  refine lv_iload hE.x hE.b dX9_isAllowed_15 (lv_at hl 0 rfl) ?_
  refine lv_iconst (v := (-1)) hE.x hE.b dX9_isAllowed_17 rfl ?_
  refine lv_icmp_eq (tgt := 34) hE.x hE.b dX9_isAllowed_18 (by decide) (fun c_5 => ?_) (fun c_5 => ?_)
  · refine lv_iconst (v := nI 1) hE.x hE.b dX9_isAllowed_34 rfl ?_
    refine lv_goto (tgt := 39) hE.x hE.b dX9_isAllowed_35 (by decide) ?_
    exact z_bret (b := true) (ws := mW g o a F1_3 L A ++ X) hE hB hr (⟨F1_3, congrArg bI (by unfold isA; rw [oI_none c_5 (fun k h => by have := decN_lt h; omega)]; rfl), rfl, hf_4⟩) dX9_isAllowed_39
  · obtain ⟨q, hq⟩ := oI_some c_5
    have hq8 := decN_lt hq
    rw [hq] at hl
    have hl : lv_has ls 8 [(7, .int (nI q)), (0, .ref o), (1, .int (nI t)), (2, .int ac), (3, .int dd), (4, .int dy), (5, .int sh), (6, .int (nI S))] := hl
    refine lv_aload_n hE.x hE.b dX9_isAllowed_21 rfl (lv_at hl 1 rfl) ?_
    refine lv_iload hE.x hE.b dX9_isAllowed_22 (lv_at hl 0 rfl) ?_
    refine lv_iconst (v := nI 0) hE.x hE.b dX9_isAllowed_24 rfl ?_
    refine z_qi hB (z_cV hE hB (c_X9_has l g o a F1_3 L A X q 0 (by omega) (by omega)) q4_155 kX9_has ⟨rfl, rfl⟩ ⟨Nat.le_of_ble_eq_true rfl, Nat.le_of_ble_eq_true rfl⟩ 0 rfl rfl rfl hl.1 rfl (Nat.le_of_ble_eq_true rfl) dX9_isAllowed_25 ⟨Nat.le_of_ble_eq_true rfl, Nat.le_of_ble_eq_true rfl⟩) (fun r_6 w_7 H locs hw hB => ?_)
    obtain ⟨hr9, hw9⟩ := hw
    have hr9 := hr9.symm
    subst hr9
    have hw9 := hw9.symm
    subst hw9
    refine z_qi hB (z_cS hE hB (c_X9_allows l g (A 0 (46 + 5 * q + 0)) (mW g o a F1_3 L A ++ X)) q4_159 kX9_allows ⟨rfl, rfl⟩ ⟨Nat.le_of_ble_eq_true rfl, Nat.le_of_ble_eq_true rfl⟩ rfl hl.1 rfl (Nat.le_of_ble_eq_true rfl) dX9_isAllowed_28 ⟨Nat.le_of_ble_eq_true rfl, Nat.le_of_ble_eq_true rfl⟩) (fun r_8 w_9 H locs hw hB => ?_)
    obtain ⟨hr9, hw9⟩ := hw
    have hr9 := hr9.symm
    subst hr9
    have hw9 := hw9.symm
    subst hw9
    refine z_bf (b := (alw (A 0 (46 + 5 * q + 0)))) (tgt := 38) hE dX9_isAllowed_31 (by decide) (fun c_10 => ?_) (fun c_10 => ?_)
    · refine lv_iconst (v := nI 0) hE.x hE.b dX9_isAllowed_38 rfl ?_
      exact z_bret (b := false) (ws := mW g o a F1_3 L A ++ X) hE hB hr (⟨F1_3, congrArg bI (by unfold isA alO; rw [hq]; exact c_10.symm), rfl, hf_4⟩) dX9_isAllowed_39
    · refine lv_iconst (v := nI 1) hE.x hE.b dX9_isAllowed_34 rfl ?_
      refine lv_goto (tgt := 39) hE.x hE.b dX9_isAllowed_35 (by decide) ?_
      exact z_bret (b := true) (ws := mW g o a F1_3 L A ++ X) hE hB hr (⟨F1_3, congrArg bI (by unfold isA alO; rw [hq]; exact c_10.symm), rfl, hf_4⟩) dX9_isAllowed_39

set_option maxHeartbeats 4000000 in
set_option maxRecDepth 100000 in
theorem c_X9_allowed (l : Launch) (g : zG) (o : Nat) (a : Nat → Nat) (F : Nat → Int32) (L : Nat → Int64) (A : Nat → Nat → Int32) (X : va_W) (T : Nat) (C : Nat) (V : Nat) (U : Nat) (tw : Int32) (ac : Int32) (dd : Int32) (dy : Int32) (sh : Int32) (w : Int32) (hn : nOK (A 0) T C V U) : Met l yX9_allowed (Cond.code yX9_allowed cX9_allowed 8 (some .int) :: TBL) { frames := 5, cells := 0, slots := 0, locals := 127 } (zPc [.ref o, .int tw, .int ac, .int dd, .int dy, .int sh, .int w] g (mW g o a F L A ++ X)) (zQi g (fun r ws => ∃ (F1 : Nat → Int32), r = (allowedR (A 0) T C tw ac dd dy sh w) ∧ ws = mW g o a F1 L (chk (askOK T tw ac dd dy sh && pIn 0 1 w) A) ++ X ∧ F1 16 = F 16)) 0 0 (zA (gz g)) := by
  refine z_start (by decide +kernel) rfl (Nat.le_of_ble_eq_true rfl) ?_
  intro p e s m args below meth c ls hE hr hnm hB hl
  have hl : lv_has ls 8 [(0, .ref o), (1, .int tw), (2, .int ac), (3, .int dd), (4, .int dy), (5, .int sh), (6, .int w)] := hl
  revert hB
  generalize s.heap = H
  generalize ([] : List Loc) = locs
  intro hB
  have hT := hn.T
  have hT6 := hn.T6
  have hC := hn.C
  have hC8 := hn.C8
  have hV := hn.V
  have hV8 := hn.V8
  have hU := hn.U
  have hU8 := hn.U8
  refine lv_aload_n hE.x hE.b dX9_allowed_0 rfl (lv_at hl 0 rfl) ?_
  refine lv_iload_n hE.x hE.b dX9_allowed_1 rfl (lv_at hl 1 rfl) ?_
  refine z_qi hB (z_cV hE hB (c_X9_isTown l g o a F L A X T tw hT (by omega)) q4_106 kX9_isTown ⟨rfl, rfl⟩ ⟨Nat.le_of_ble_eq_true rfl, Nat.le_of_ble_eq_true rfl⟩ 0 rfl rfl rfl hl.1 rfl (Nat.le_of_ble_eq_true rfl) dX9_allowed_2 ⟨Nat.le_of_ble_eq_true rfl, Nat.le_of_ble_eq_true rfl⟩) (fun r_1 w_2 H locs hw hB => ?_)
  obtain ⟨hr9, hw9⟩ := hw
  have hr9 := hr9.symm
  subst hr9
  have hw9 := hw9.symm
  subst hw9
  refine z_bf (b := (pTown T tw)) (tgt := 43) hE dX9_allowed_5 (by decide) (fun c_3 => ?_) (fun c_3 => ?_)
  · refine lv_aload_n hE.x hE.b dX9_allowed_43 rfl (lv_at hl 0 rfl) ?_
    refine lv_bipush (v := (-10)) hE.x hE.b dX9_allowed_44 rfl ?_
    refine z_qi hB (z_cV hE hB (c_X9_bad l g o a F L A X (-10)) q4_91 kX9_bad ⟨rfl, rfl⟩ ⟨Nat.le_of_ble_eq_true rfl, Nat.le_of_ble_eq_true rfl⟩ 0 rfl rfl rfl hl.1 rfl (Nat.le_of_ble_eq_true rfl) dX9_allowed_46 ⟨Nat.le_of_ble_eq_true rfl, Nat.le_of_ble_eq_true rfl⟩) (fun r_4 w_5 H locs hw hB => ?_)
    obtain ⟨hr9, hw9⟩ := hw
    have hr9 := hr9.symm
    subst hr9
    have hw9 := hw9.symm
    subst hw9
    exact z_iret (v := (-10)) (ws := mW g o a F L (bump 0 A) ++ X) hE hB hr (⟨F, by unfold allowedR askOK; simp [c_3], by unfold chk askOK; simp [c_3], rfl⟩) dX9_allowed_49
  · refine lv_iload_n hE.x hE.b dX9_allowed_8 rfl (lv_at hl 2 rfl) ?_
    refine z_qi hB (z_cS hE hB (c_X9_isAct l g ac (mW g o a F L A ++ X)) q4_119 kX9_isAct ⟨rfl, rfl⟩ ⟨Nat.le_of_ble_eq_true rfl, Nat.le_of_ble_eq_true rfl⟩ rfl hl.1 rfl (Nat.le_of_ble_eq_true rfl) dX9_allowed_9 ⟨Nat.le_of_ble_eq_true rfl, Nat.le_of_ble_eq_true rfl⟩) (fun r_6 w_7 H locs hw hB => ?_)
    obtain ⟨hr9, hw9⟩ := hw
    have hr9 := hr9.symm
    subst hr9
    have hw9 := hw9.symm
    subst hw9
    refine z_bf (b := (pIn 0 5 ac)) (tgt := 43) hE dX9_allowed_12 (by decide) (fun c_8 => ?_) (fun c_8 => ?_)
    · refine lv_aload_n hE.x hE.b dX9_allowed_43 rfl (lv_at hl 0 rfl) ?_
      refine lv_bipush (v := (-10)) hE.x hE.b dX9_allowed_44 rfl ?_
      refine z_qi hB (z_cV hE hB (c_X9_bad l g o a F L A X (-10)) q4_91 kX9_bad ⟨rfl, rfl⟩ ⟨Nat.le_of_ble_eq_true rfl, Nat.le_of_ble_eq_true rfl⟩ 0 rfl rfl rfl hl.1 rfl (Nat.le_of_ble_eq_true rfl) dX9_allowed_46 ⟨Nat.le_of_ble_eq_true rfl, Nat.le_of_ble_eq_true rfl⟩) (fun r_9 w_10 H locs hw hB => ?_)
      obtain ⟨hr9, hw9⟩ := hw
      have hr9 := hr9.symm
      subst hr9
      have hw9 := hw9.symm
      subst hw9
      exact z_iret (v := (-10)) (ws := mW g o a F L (bump 0 A) ++ X) hE hB hr (⟨F, by unfold allowedR askOK; simp [c_3, c_8], by unfold chk askOK; simp [c_3, c_8], rfl⟩) dX9_allowed_49
    · refine lv_iload_n hE.x hE.b dX9_allowed_15 rfl (lv_at hl 3 rfl) ?_
      refine z_qi hB (z_cS hE hB (c_X9_isDay l g dd (mW g o a F L A ++ X)) q4_170 kX9_isDay ⟨rfl, rfl⟩ ⟨Nat.le_of_ble_eq_true rfl, Nat.le_of_ble_eq_true rfl⟩ rfl hl.1 rfl (Nat.le_of_ble_eq_true rfl) dX9_allowed_16 ⟨Nat.le_of_ble_eq_true rfl, Nat.le_of_ble_eq_true rfl⟩) (fun r_11 w_12 H locs hw hB => ?_)
      obtain ⟨hr9, hw9⟩ := hw
      have hr9 := hr9.symm
      subst hr9
      have hw9 := hw9.symm
      subst hw9
      refine z_bf (b := (pIn 0 59 dd)) (tgt := 43) hE dX9_allowed_19 (by decide) (fun c_13 => ?_) (fun c_13 => ?_)
      · refine lv_aload_n hE.x hE.b dX9_allowed_43 rfl (lv_at hl 0 rfl) ?_
        refine lv_bipush (v := (-10)) hE.x hE.b dX9_allowed_44 rfl ?_
        refine z_qi hB (z_cV hE hB (c_X9_bad l g o a F L A X (-10)) q4_91 kX9_bad ⟨rfl, rfl⟩ ⟨Nat.le_of_ble_eq_true rfl, Nat.le_of_ble_eq_true rfl⟩ 0 rfl rfl rfl hl.1 rfl (Nat.le_of_ble_eq_true rfl) dX9_allowed_46 ⟨Nat.le_of_ble_eq_true rfl, Nat.le_of_ble_eq_true rfl⟩) (fun r_14 w_15 H locs hw hB => ?_)
        obtain ⟨hr9, hw9⟩ := hw
        have hr9 := hr9.symm
        subst hr9
        have hw9 := hw9.symm
        subst hw9
        exact z_iret (v := (-10)) (ws := mW g o a F L (bump 0 A) ++ X) hE hB hr (⟨F, by unfold allowedR askOK; simp [c_3, c_8, c_13], by unfold chk askOK; simp [c_3, c_8, c_13], rfl⟩) dX9_allowed_49
      · refine lv_iload hE.x hE.b dX9_allowed_22 (lv_at hl 4 rfl) ?_
        refine lv_iload hE.x hE.b dX9_allowed_24 (lv_at hl 5 rfl) ?_
        refine z_qi hB (z_cS hE hB (c_X9_isAsker l g dy sh (mW g o a F L A ++ X)) q4_174 kX9_isAsker ⟨rfl, rfl⟩ ⟨Nat.le_of_ble_eq_true rfl, Nat.le_of_ble_eq_true rfl⟩ rfl hl.1 rfl (Nat.le_of_ble_eq_true rfl) dX9_allowed_26 ⟨Nat.le_of_ble_eq_true rfl, Nat.le_of_ble_eq_true rfl⟩) (fun r_16 w_17 H locs hw hB => ?_)
        obtain ⟨hr9, hw9⟩ := hw
        have hr9 := hr9.symm
        subst hr9
        have hw9 := hw9.symm
        subst hw9
        refine z_bf (b := (pIn 0 1 dy && pIn 0 1 sh)) (tgt := 43) hE dX9_allowed_29 (by decide) (fun c_18 => ?_) (fun c_18 => ?_)
        · refine lv_aload_n hE.x hE.b dX9_allowed_43 rfl (lv_at hl 0 rfl) ?_
          refine lv_bipush (v := (-10)) hE.x hE.b dX9_allowed_44 rfl ?_
          refine z_qi hB (z_cV hE hB (c_X9_bad l g o a F L A X (-10)) q4_91 kX9_bad ⟨rfl, rfl⟩ ⟨Nat.le_of_ble_eq_true rfl, Nat.le_of_ble_eq_true rfl⟩ 0 rfl rfl rfl hl.1 rfl (Nat.le_of_ble_eq_true rfl) dX9_allowed_46 ⟨Nat.le_of_ble_eq_true rfl, Nat.le_of_ble_eq_true rfl⟩) (fun r_19 w_20 H locs hw hB => ?_)
          obtain ⟨hr9, hw9⟩ := hw
          have hr9 := hr9.symm
          subst hr9
          have hw9 := hw9.symm
          subst hw9
          exact z_iret (v := (-10)) (ws := mW g o a F L (bump 0 A) ++ X) hE hB hr (⟨F, by unfold allowedR askOK; simp [c_3, c_8, c_13, c_18], by unfold chk askOK; simp [c_3, c_8, c_13, c_18], rfl⟩) dX9_allowed_49
        · refine lv_iload hE.x hE.b dX9_allowed_32 (lv_at hl 6 rfl) ?_
          refine lv_i2l hE.x hE.b dX9_allowed_34 rfl ?_
          refine lv_lconst (v := lN 0) hE.x hE.b dX9_allowed_35 rfl ?_
          refine lv_lconst (v := lN 1) hE.x hE.b dX9_allowed_36 rfl ?_
          refine z_qi hB (z_cS hE hB (c_X9_in l g (Int32.toInt64 w) (lN 0) (lN 1) (Int32.toInt w) 0 1 (mW g o a F L A ++ X) (Int32.toInt_toInt64 _) (by decide) (by decide)) q4_88 kX9_in ⟨rfl, rfl⟩ ⟨Nat.le_of_ble_eq_true rfl, Nat.le_of_ble_eq_true rfl⟩ rfl hl.1 rfl (Nat.le_of_ble_eq_true rfl) dX9_allowed_37 ⟨Nat.le_of_ble_eq_true rfl, Nat.le_of_ble_eq_true rfl⟩) (fun r_21 w_22 H locs hw hB => ?_)
          obtain ⟨hr9, hw9⟩ := hw
          have hr9 := hr9.symm
          subst hr9
          have hw9 := hw9.symm
          subst hw9
          refine z_bt (b := (inZ 0 1 (Int32.toInt w))) (tgt := 50) hE dX9_allowed_40 (by decide) (fun c_23 => ?_) (fun c_23 => ?_)
          · obtain ⟨t, ht, rfl⟩ := pTown_nI c_3 (by omega)
            refine lv_aload_n hE.x hE.b dX9_allowed_50 rfl (lv_at hl 0 rfl) ?_
            refine lv_iload_n hE.x hE.b dX9_allowed_51 rfl (lv_at hl 1 rfl) ?_
            refine lv_iload_n hE.x hE.b dX9_allowed_52 rfl (lv_at hl 2 rfl) ?_
            refine lv_iload_n hE.x hE.b dX9_allowed_53 rfl (lv_at hl 3 rfl) ?_
            refine lv_iload hE.x hE.b dX9_allowed_54 (lv_at hl 4 rfl) ?_
            refine lv_iload hE.x hE.b dX9_allowed_56 (lv_at hl 5 rfl) ?_
            refine lv_iconst (v := nI 0) hE.x hE.b dX9_allowed_58 rfl ?_
            refine z_qi hB (z_cV hE hB (c_X9_decidesIn l g o a F L A X C t ac dd dy sh 0 hC (by omega) (by omega) (by omega)) q4_177 kX9_decidesIn ⟨rfl, rfl⟩ ⟨Nat.le_of_ble_eq_true rfl, Nat.le_of_ble_eq_true rfl⟩ 0 rfl rfl rfl hl.1 rfl (Nat.le_of_ble_eq_true rfl) dX9_allowed_59 ⟨Nat.le_of_ble_eq_true rfl, Nat.le_of_ble_eq_true rfl⟩) (fun r_24 w_25 H locs hw hB => ?_)
            obtain ⟨F1_26, hr9, hw9, hf_27⟩ := hw
            have hr9 := hr9.symm
            subst hr9
            have hw9 := hw9.symm
            subst hw9
            refine lv_istore (lv' := [(7, .int (oI (decN (A 0) C t ac dd dy sh 0))), (0, .ref o), (1, .int (nI t)), (2, .int ac), (3, .int dd), (4, .int dy), (5, .int sh), (6, .int w)]) hE.x hE.b dX9_allowed_62 hl (by decide) rfl (fun ls hl => ?_)
            refine lv_iload hE.x hE.b dX9_allowed_64 (lv_at hl 7 rfl) ?_
            refine lv_iconst (v := nI 1) hE.x hE.b dX9_allowed_66 rfl ?_
            refine lv_icmp_ne (tgt := 75) hE.x hE.b dX9_allowed_67 (by decide) (fun c_28 => ?_) (fun c_28 => ?_)
            · refine lv_iload hE.x hE.b dX9_allowed_75 (lv_at hl 0 rfl) ?_
              refine lv_iconst (v := (-1)) hE.x hE.b dX9_allowed_77 rfl ?_
              refine lv_icmp_eq (tgt := 94) hE.x hE.b dX9_allowed_78 (by decide) (fun c_29 => ?_) (fun c_29 => ?_)
              · refine lv_iconst (v := nI 1) hE.x hE.b dX9_allowed_94 rfl ?_
                refine lv_goto (tgt := 99) hE.x hE.b dX9_allowed_95 (by decide) ?_
                exact z_iret (v := (nI 1)) (ws := mW g o a F1_26 L A ++ X) hE hB hr (⟨F1_26, by unfold allowedR askOK; simp only [c_3, c_8, c_13, c_18, c_23, Bool.and_true, if_true, rcl (show t < 2 ^ 31 by omega)]; rw [if_neg c_28]; unfold isA; rw [oI_none c_29 (fun k h => by have := decN_lt h; omega)]; rfl, by unfold chk askOK; simp only [c_3, c_8, c_13, c_18, c_23, Bool.and_true, if_true], hf_27⟩) dX9_allowed_99
              · obtain ⟨q, hq⟩ := oI_some c_29
                have hq8 := decN_lt hq
                rw [hq] at hl
                have hl : lv_has ls 8 [(7, .int (nI q)), (0, .ref o), (1, .int (nI t)), (2, .int ac), (3, .int dd), (4, .int dy), (5, .int sh), (6, .int w)] := hl
                refine lv_aload_n hE.x hE.b dX9_allowed_81 rfl (lv_at hl 1 rfl) ?_
                refine lv_iload hE.x hE.b dX9_allowed_82 (lv_at hl 0 rfl) ?_
                refine lv_iconst (v := nI 0) hE.x hE.b dX9_allowed_84 rfl ?_
                refine z_qi hB (z_cV hE hB (c_X9_has l g o a F1_26 L A X q 0 (by omega) (by omega)) q4_155 kX9_has ⟨rfl, rfl⟩ ⟨Nat.le_of_ble_eq_true rfl, Nat.le_of_ble_eq_true rfl⟩ 0 rfl rfl rfl hl.1 rfl (Nat.le_of_ble_eq_true rfl) dX9_allowed_85 ⟨Nat.le_of_ble_eq_true rfl, Nat.le_of_ble_eq_true rfl⟩) (fun r_30 w_31 H locs hw hB => ?_)
                obtain ⟨hr9, hw9⟩ := hw
                have hr9 := hr9.symm
                subst hr9
                have hw9 := hw9.symm
                subst hw9
                refine z_qi hB (z_cS hE hB (c_X9_allows l g (A 0 (46 + 5 * q + 0)) (mW g o a F1_26 L A ++ X)) q4_159 kX9_allows ⟨rfl, rfl⟩ ⟨Nat.le_of_ble_eq_true rfl, Nat.le_of_ble_eq_true rfl⟩ rfl hl.1 rfl (Nat.le_of_ble_eq_true rfl) dX9_allowed_88 ⟨Nat.le_of_ble_eq_true rfl, Nat.le_of_ble_eq_true rfl⟩) (fun r_32 w_33 H locs hw hB => ?_)
                obtain ⟨hr9, hw9⟩ := hw
                have hr9 := hr9.symm
                subst hr9
                have hw9 := hw9.symm
                subst hw9
                refine z_bf (b := (alw (A 0 (46 + 5 * q + 0)))) (tgt := 98) hE dX9_allowed_91 (by decide) (fun c_34 => ?_) (fun c_34 => ?_)
                · refine lv_iconst (v := nI 0) hE.x hE.b dX9_allowed_98 rfl ?_
                  exact z_iret (v := (nI 0)) (ws := mW g o a F1_26 L A ++ X) hE hB hr (⟨F1_26, by unfold allowedR askOK; simp only [c_3, c_8, c_13, c_18, c_23, Bool.and_true, if_true, rcl (show t < 2 ^ 31 by omega)]; rw [if_neg c_28]; unfold isA alO; rw [hq]; exact congrArg bI c_34.symm, by unfold chk askOK; simp only [c_3, c_8, c_13, c_18, c_23, Bool.and_true, if_true], hf_27⟩) dX9_allowed_99
                · refine lv_iconst (v := nI 1) hE.x hE.b dX9_allowed_94 rfl ?_
                  refine lv_goto (tgt := 99) hE.x hE.b dX9_allowed_95 (by decide) ?_
                  exact z_iret (v := (nI 1)) (ws := mW g o a F1_26 L A ++ X) hE hB hr (⟨F1_26, by unfold allowedR askOK; simp only [c_3, c_8, c_13, c_18, c_23, Bool.and_true, if_true, rcl (show t < 2 ^ 31 by omega)]; rw [if_neg c_28]; unfold isA alO; rw [hq]; exact congrArg bI c_34.symm, by unfold chk askOK; simp only [c_3, c_8, c_13, c_18, c_23, Bool.and_true, if_true], hf_27⟩) dX9_allowed_99
            · refine lv_iload hE.x hE.b dX9_allowed_70 (lv_at hl 0 rfl) ?_
              refine lv_goto (tgt := 99) hE.x hE.b dX9_allowed_72 (by decide) ?_
              exact z_iret (v := (oI (decN (A 0) C t ac dd dy sh 0))) (ws := mW g o a F1_26 L A ++ X) hE hB hr (⟨F1_26, by unfold allowedR askOK; simp only [c_3, c_8, c_13, c_18, c_23, Bool.and_true, if_true, rcl (show t < 2 ^ 31 by omega)]; rw [if_pos c_28], by unfold chk askOK; simp only [c_3, c_8, c_13, c_18, c_23, Bool.and_true, if_true], hf_27⟩) dX9_allowed_99
          · refine lv_aload_n hE.x hE.b dX9_allowed_43 rfl (lv_at hl 0 rfl) ?_
            refine lv_bipush (v := (-10)) hE.x hE.b dX9_allowed_44 rfl ?_
            refine z_qi hB (z_cV hE hB (c_X9_bad l g o a F L A X (-10)) q4_91 kX9_bad ⟨rfl, rfl⟩ ⟨Nat.le_of_ble_eq_true rfl, Nat.le_of_ble_eq_true rfl⟩ 0 rfl rfl rfl hl.1 rfl (Nat.le_of_ble_eq_true rfl) dX9_allowed_46 ⟨Nat.le_of_ble_eq_true rfl, Nat.le_of_ble_eq_true rfl⟩) (fun r_35 w_36 H locs hw hB => ?_)
            obtain ⟨hr9, hw9⟩ := hw
            have hr9 := hr9.symm
            subst hr9
            have hw9 := hw9.symm
            subst hw9
            exact z_iret (v := (-10)) (ws := mW g o a F L (bump 0 A) ++ X) hE hB hr (⟨F, by unfold allowedR askOK; simp [c_3, c_8, c_13, c_18, c_23], by unfold chk askOK; simp [c_3, c_8, c_13, c_18, c_23], rfl⟩) dX9_allowed_49

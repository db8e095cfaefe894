theorem dX9_patience_0 : decode cX9_patience 0 = .ok (.iload_n 1, 1) := by decide +kernel
theorem dX9_patience_1 : decode cX9_patience 1 = .ok (.i2l, 1) := by decide +kernel
theorem dX9_patience_2 : decode cX9_patience 2 = .ok (.lconst 0, 1) := by decide +kernel
theorem dX9_patience_3 : decode cX9_patience 3 = .ok (.ldc2_w 181, 3) := by decide +kernel
theorem dX9_patience_6 : decode cX9_patience 6 = .ok (.invokestatic 43, 3) := by decide +kernel
theorem dX9_patience_9 : decode cX9_patience 9 = .ok (.ifCond .eq 33, 3) := by decide +kernel
theorem dX9_patience_12 : decode cX9_patience 12 = .ok (.iload_n 2, 1) := by decide +kernel
theorem dX9_patience_13 : decode cX9_patience 13 = .ok (.i2l, 1) := by decide +kernel
theorem dX9_patience_14 : decode cX9_patience 14 = .ok (.lconst 0, 1) := by decide +kernel
theorem dX9_patience_15 : decode cX9_patience 15 = .ok (.ldc2_w 181, 3) := by decide +kernel
theorem dX9_patience_18 : decode cX9_patience 18 = .ok (.invokestatic 43, 3) := by decide +kernel
theorem dX9_patience_21 : decode cX9_patience 21 = .ok (.ifCond .eq 21, 3) := by decide +kernel
theorem dX9_patience_24 : decode cX9_patience 24 = .ok (.iload_n 3, 1) := by decide +kernel
theorem dX9_patience_25 : decode cX9_patience 25 = .ok (.invokestatic 164, 3) := by decide +kernel
theorem dX9_patience_28 : decode cX9_patience 28 = .ok (.ifCond .eq 14, 3) := by decide +kernel
theorem dX9_patience_31 : decode cX9_patience 31 = .ok (.iload 4, 2) := by decide +kernel
theorem dX9_patience_33 : decode cX9_patience 33 = .ok (.i2l, 1) := by decide +kernel
theorem dX9_patience_34 : decode cX9_patience 34 = .ok (.lconst 0, 1) := by decide +kernel
theorem dX9_patience_35 : decode cX9_patience 35 = .ok (.lconst 1, 1) := by decide +kernel
theorem dX9_patience_36 : decode cX9_patience 36 = .ok (.invokestatic 43, 3) := by decide +kernel
theorem dX9_patience_39 : decode cX9_patience 39 = .ok (.ifCond .ne 10, 3) := by decide +kernel
theorem dX9_patience_42 : decode cX9_patience 42 = .ok (.aload_n 0, 1) := by decide +kernel
theorem dX9_patience_43 : decode cX9_patience 43 = .ok (.bipush (-2), 2) := by decide +kernel
theorem dX9_patience_45 : decode cX9_patience 45 = .ok (.invokevirtual 62, 3) := by decide +kernel
theorem dX9_patience_48 : decode cX9_patience 48 = .ok (.ireturn, 1) := by decide +kernel
theorem dX9_patience_49 : decode cX9_patience 49 = .ok (.aload_n 0, 1) := by decide +kernel
theorem dX9_patience_50 : decode cX9_patience 50 = .ok (.iload_n 1, 1) := by decide +kernel
theorem dX9_patience_51 : decode cX9_patience 51 = .ok (.iload_n 2, 1) := by decide +kernel
theorem dX9_patience_52 : decode cX9_patience 52 = .ok (.iload_n 3, 1) := by decide +kernel
theorem dX9_patience_53 : decode cX9_patience 53 = .ok (.iconst 0, 1) := by decide +kernel
theorem dX9_patience_54 : decode cX9_patience 54 = .ok (.invokevirtual 183, 3) := by decide +kernel
theorem dX9_patience_57 : decode cX9_patience 57 = .ok (.istore 5, 2) := by decide +kernel
theorem dX9_patience_59 : decode cX9_patience 59 = .ok (.iload 4, 2) := by decide +kernel
theorem dX9_patience_61 : decode cX9_patience 61 = .ok (.ifCond .ne 8, 3) := by decide +kernel
theorem dX9_patience_64 : decode cX9_patience 64 = .ok (.iload 5, 2) := by decide +kernel
theorem dX9_patience_66 : decode cX9_patience 66 = .ok (.goto 7, 3) := by decide +kernel
theorem dX9_patience_69 : decode cX9_patience 69 = .ok (.aload_n 0, 1) := by decide +kernel
theorem dX9_patience_70 : decode cX9_patience 70 = .ok (.getfield 178, 3) := by decide +kernel
theorem dX9_patience_73 : decode cX9_patience 73 = .ok (.ireturn, 1) := by decide +kernel
theorem dX9_orNever_0 : decode cX9_orNever 0 = .ok (.iload_n 0, 1) := by decide +kernel
theorem dX9_orNever_1 : decode cX9_orNever 1 = .ok (.iconst (-1), 1) := by decide +kernel
theorem dX9_orNever_2 : decode cX9_orNever 2 = .ok (.if_icmp .ne 8, 3) := by decide +kernel
theorem dX9_orNever_5 : decode cX9_orNever 5 = .ok (.bipush 60, 2) := by decide +kernel
theorem dX9_orNever_7 : decode cX9_orNever 7 = .ok (.goto 4, 3) := by decide +kernel
theorem dX9_orNever_10 : decode cX9_orNever 10 = .ok (.iload_n 0, 1) := by decide +kernel
theorem dX9_orNever_11 : decode cX9_orNever 11 = .ok (.ireturn, 1) := by decide +kernel
theorem dX9_concede_0 : decode cX9_concede 0 = .ok (.aload_n 0, 1) := by decide +kernel
theorem dX9_concede_1 : decode cX9_concede 1 = .ok (.iload_n 1, 1) := by decide +kernel
theorem dX9_concede_2 : decode cX9_concede 2 = .ok (.invokevirtual 95, 3) := by decide +kernel
theorem dX9_concede_5 : decode cX9_concede 5 = .ok (.ifCond .eq 35, 3) := by decide +kernel
theorem dX9_concede_8 : decode cX9_concede 8 = .ok (.iload_n 2, 1) := by decide +kernel
theorem dX9_concede_9 : decode cX9_concede 9 = .ok (.i2l, 1) := by decide +kernel
theorem dX9_concede_10 : decode cX9_concede 10 = .ok (.lconst 0, 1) := by decide +kernel
theorem dX9_concede_11 : decode cX9_concede 11 = .ok (.ldc2_w 181, 3) := by decide +kernel
theorem dX9_concede_14 : decode cX9_concede 14 = .ok (.invokestatic 43, 3) := by decide +kernel
theorem dX9_concede_17 : decode cX9_concede 17 = .ok (.ifCond .eq 23, 3) := by decide +kernel
theorem dX9_concede_20 : decode cX9_concede 20 = .ok (.iload_n 3, 1) := by decide +kernel
theorem dX9_concede_21 : decode cX9_concede 21 = .ok (.i2l, 1) := by decide +kernel
theorem dX9_concede_22 : decode cX9_concede 22 = .ok (.lconst 0, 1) := by decide +kernel
theorem dX9_concede_23 : decode cX9_concede 23 = .ok (.ldc2_w 181, 3) := by decide +kernel
theorem dX9_concede_26 : decode cX9_concede 26 = .ok (.invokestatic 43, 3) := by decide +kernel
theorem dX9_concede_29 : decode cX9_concede 29 = .ok (.ifCond .eq 11, 3) := by decide +kernel
theorem dX9_concede_32 : decode cX9_concede 32 = .ok (.iload 4, 2) := by decide +kernel
theorem dX9_concede_34 : decode cX9_concede 34 = .ok (.invokestatic 164, 3) := by decide +kernel
theorem dX9_concede_37 : decode cX9_concede 37 = .ok (.ifCond .ne 10, 3) := by decide +kernel
theorem dX9_concede_40 : decode cX9_concede 40 = .ok (.aload_n 0, 1) := by decide +kernel
theorem dX9_concede_41 : decode cX9_concede 41 = .ok (.bipush (-100), 2) := by decide +kernel
theorem dX9_concede_43 : decode cX9_concede 43 = .ok (.invokevirtual 62, 3) := by decide +kernel
theorem dX9_concede_46 : decode cX9_concede 46 = .ok (.ireturn, 1) := by decide +kernel
theorem dX9_concede_47 : decode cX9_concede 47 = .ok (.aload_n 0, 1) := by decide +kernel
theorem dX9_concede_48 : decode cX9_concede 48 = .ok (.iload_n 2, 1) := by decide +kernel
theorem dX9_concede_49 : decode cX9_concede 49 = .ok (.iload_n 3, 1) := by decide +kernel
theorem dX9_concede_50 : decode cX9_concede 50 = .ok (.iload 4, 2) := by decide +kernel
theorem dX9_concede_52 : decode cX9_concede 52 = .ok (.iconst 1, 1) := by decide +kernel
theorem dX9_concede_53 : decode cX9_concede 53 = .ok (.iload_n 1, 1) := by decide +kernel
theorem dX9_concede_54 : decode cX9_concede 54 = .ok (.ishl, 1) := by decide +kernel
theorem dX9_concede_55 : decode cX9_concede 55 = .ok (.invokevirtual 183, 3) := by decide +kernel
theorem dX9_concede_58 : decode cX9_concede 58 = .ok (.invokestatic 187, 3) := by decide +kernel
theorem dX9_concede_61 : decode cX9_concede 61 = .ok (.aload_n 0, 1) := by decide +kernel
theorem dX9_concede_62 : decode cX9_concede 62 = .ok (.iload_n 2, 1) := by decide +kernel
theorem dX9_concede_63 : decode cX9_concede 63 = .ok (.iload_n 3, 1) := by decide +kernel
theorem dX9_concede_64 : decode cX9_concede 64 = .ok (.iload 4, 2) := by decide +kernel
theorem dX9_concede_66 : decode cX9_concede 66 = .ok (.iconst 0, 1) := by decide +kernel
theorem dX9_concede_67 : decode cX9_concede 67 = .ok (.invokevirtual 183, 3) := by decide +kernel
theorem dX9_concede_70 : decode cX9_concede 70 = .ok (.invokestatic 187, 3) := by decide +kernel
theorem dX9_concede_73 : decode cX9_concede 73 = .ok (.isub, 1) := by decide +kernel
theorem dX9_concede_74 : decode cX9_concede 74 = .ok (.ireturn, 1) := by decide +kernel
theorem dX9_presses_0 : decode cX9_presses 0 = .ok (.iload_n 1, 1) := by decide +kernel
theorem dX9_presses_1 : decode cX9_presses 1 = .ok (.invokestatic 164, 3) := by decide +kernel
theorem dX9_presses_4 : decode cX9_presses 4 = .ok (.ifCond .eq 13, 3) := by decide +kernel
theorem dX9_presses_7 : decode cX9_presses 7 = .ok (.iload_n 2, 1) := by decide +kernel
theorem dX9_presses_8 : decode cX9_presses 8 = .ok (.i2l, 1) := by decide +kernel
theorem dX9_presses_9 : decode cX9_presses 9 = .ok (.lconst 0, 1) := by decide +kernel
theorem dX9_presses_10 : decode cX9_presses 10 = .ok (.lconst 1, 1) := by decide +kernel
theorem dX9_presses_11 : decode cX9_presses 11 = .ok (.invokestatic 43, 3) := by decide +kernel
theorem dX9_presses_14 : decode cX9_presses 14 = .ok (.ifCond .ne 10, 3) := by decide +kernel
theorem dX9_presses_17 : decode cX9_presses 17 = .ok (.aload_n 0, 1) := by decide +kernel
theorem dX9_presses_18 : decode cX9_presses 18 = .ok (.bipush (-2), 2) := by decide +kernel
theorem dX9_presses_20 : decode cX9_presses 20 = .ok (.invokevirtual 62, 3) := by decide +kernel
theorem dX9_presses_23 : decode cX9_presses 23 = .ok (.ireturn, 1) := by decide +kernel
theorem dX9_presses_24 : decode cX9_presses 24 = .ok (.iconst (-1), 1) := by decide +kernel
theorem dX9_presses_25 : decode cX9_presses 25 = .ok (.istore_n 3, 1) := by decide +kernel
theorem dX9_presses_26 : decode cX9_presses 26 = .ok (.iconst (-1), 1) := by decide +kernel
theorem dX9_presses_27 : decode cX9_presses 27 = .ok (.istore 4, 2) := by decide +kernel
theorem dX9_presses_29 : decode cX9_presses 29 = .ok (.iconst 0, 1) := by decide +kernel
theorem dX9_presses_30 : decode cX9_presses 30 = .ok (.istore 5, 2) := by decide +kernel
theorem dX9_presses_32 : decode cX9_presses 32 = .ok (.iload 5, 2) := by decide +kernel
theorem dX9_presses_34 : decode cX9_presses 34 = .ok (.aload_n 0, 1) := by decide +kernel
theorem dX9_presses_35 : decode cX9_presses 35 = .ok (.invokevirtual 39, 3) := by decide +kernel
theorem dX9_presses_38 : decode cX9_presses 38 = .ok (.if_icmp .ge 81, 3) := by decide +kernel
theorem dX9_presses_41 : decode cX9_presses 41 = .ok (.iconst 0, 1) := by decide +kernel
theorem dX9_presses_42 : decode cX9_presses 42 = .ok (.istore 6, 2) := by decide +kernel
theorem dX9_presses_44 : decode cX9_presses 44 = .ok (.iconst 0, 1) := by decide +kernel
theorem dX9_presses_45 : decode cX9_presses 45 = .ok (.istore 7, 2) := by decide +kernel
theorem dX9_presses_47 : decode cX9_presses 47 = .ok (.iload 7, 2) := by decide +kernel
theorem dX9_presses_49 : decode cX9_presses 49 = .ok (.bipush 60, 2) := by decide +kernel
theorem dX9_presses_51 : decode cX9_presses 51 = .ok (.if_icmp .ge 32, 3) := by decide +kernel
theorem dX9_presses_54 : decode cX9_presses 54 = .ok (.iload 6, 2) := by decide +kernel
theorem dX9_presses_56 : decode cX9_presses 56 = .ok (.aload_n 0, 1) := by decide +kernel
theorem dX9_presses_57 : decode cX9_presses 57 = .ok (.iload 5, 2) := by decide +kernel
theorem dX9_presses_59 : decode cX9_presses 59 = .ok (.iload_n 1, 1) := by decide +kernel
theorem dX9_presses_60 : decode cX9_presses 60 = .ok (.iload 7, 2) := by decide +kernel
theorem dX9_presses_62 : decode cX9_presses 62 = .ok (.iconst 0, 1) := by decide +kernel
theorem dX9_presses_63 : decode cX9_presses 63 = .ok (.invokevirtual 174, 3) := by decide +kernel
theorem dX9_presses_66 : decode cX9_presses 66 = .ok (.ifCond .eq 7, 3) := by decide +kernel
theorem dX9_presses_69 : decode cX9_presses 69 = .ok (.iconst 1, 1) := by decide +kernel
theorem dX9_presses_70 : decode cX9_presses 70 = .ok (.goto 4, 3) := by decide +kernel
theorem dX9_presses_73 : decode cX9_presses 73 = .ok (.iconst 0, 1) := by decide +kernel
theorem dX9_presses_74 : decode cX9_presses 74 = .ok (.iadd, 1) := by decide +kernel
theorem dX9_presses_75 : decode cX9_presses 75 = .ok (.istore 6, 2) := by decide +kernel
theorem dX9_presses_77 : decode cX9_presses 77 = .ok (.iinc 7 1, 3) := by decide +kernel
theorem dX9_presses_80 : decode cX9_presses 80 = .ok (.goto (-33), 3) := by decide +kernel
theorem dX9_presses_83 : decode cX9_presses 83 = .ok (.iload 6, 2) := by decide +kernel
theorem dX9_presses_85 : decode cX9_presses 85 = .ok (.iload 4, 2) := by decide +kernel
theorem dX9_presses_87 : decode cX9_presses 87 = .ok (.if_icmp .le 8, 3) := by decide +kernel
theorem dX9_presses_90 : decode cX9_presses 90 = .ok (.iload 5, 2) := by decide +kernel
theorem dX9_presses_92 : decode cX9_presses 92 = .ok (.goto 4, 3) := by decide +kernel
theorem dX9_presses_95 : decode cX9_presses 95 = .ok (.iload_n 3, 1) := by decide +kernel
theorem dX9_presses_96 : decode cX9_presses 96 = .ok (.istore_n 3, 1) := by decide +kernel
theorem dX9_presses_97 : decode cX9_presses 97 = .ok (.iload 6, 2) := by decide +kernel
theorem dX9_presses_99 : decode cX9_presses 99 = .ok (.iload 4, 2) := by decide +kernel
theorem dX9_presses_101 : decode cX9_presses 101 = .ok (.if_icmp .le 8, 3) := by decide +kernel
theorem dX9_presses_104 : decode cX9_presses 104 = .ok (.iload 6, 2) := by decide +kernel
theorem dX9_presses_106 : decode cX9_presses 106 = .ok (.goto 5, 3) := by decide +kernel
theorem dX9_presses_109 : decode cX9_presses 109 = .ok (.iload 4, 2) := by decide +kernel
theorem dX9_presses_111 : decode cX9_presses 111 = .ok (.istore 4, 2) := by decide +kernel
theorem dX9_presses_113 : decode cX9_presses 113 = .ok (.iinc 5 1, 3) := by decide +kernel
theorem dX9_presses_116 : decode cX9_presses 116 = .ok (.goto (-84), 3) := by decide +kernel
theorem dX9_presses_119 : decode cX9_presses 119 = .ok (.iload_n 2, 1) := by decide +kernel
theorem dX9_presses_120 : decode cX9_presses 120 = .ok (.ifCond .ne 7, 3) := by decide +kernel
theorem dX9_presses_123 : decode cX9_presses 123 = .ok (.iload_n 3, 1) := by decide +kernel
theorem dX9_presses_124 : decode cX9_presses 124 = .ok (.goto 14, 3) := by decide +kernel
theorem dX9_presses_127 : decode cX9_presses 127 = .ok (.iload_n 3, 1) := by decide +kernel
theorem dX9_presses_128 : decode cX9_presses 128 = .ok (.iconst (-1), 1) := by decide +kernel
theorem dX9_presses_129 : decode cX9_presses 129 = .ok (.if_icmp .ne 7, 3) := by decide +kernel
theorem dX9_presses_132 : decode cX9_presses 132 = .ok (.iconst 0, 1) := by decide +kernel
theorem dX9_presses_133 : decode cX9_presses 133 = .ok (.goto 5, 3) := by decide +kernel
theorem dX9_presses_136 : decode cX9_presses 136 = .ok (.iload 4, 2) := by decide +kernel
theorem dX9_presses_138 : decode cX9_presses 138 = .ok (.ireturn, 1) := by decide +kernel
theorem dX9_leave_0 : decode cX9_leave 0 = .ok (.aload_n 0, 1) := by decide +kernel
theorem dX9_leave_1 : decode cX9_leave 1 = .ok (.iload_n 1, 1) := by decide +kernel
theorem dX9_leave_2 : decode cX9_leave 2 = .ok (.invokevirtual 73, 3) := by decide +kernel
theorem dX9_leave_5 : decode cX9_leave 5 = .ok (.ifCond .eq 27, 3) := by decide +kernel
theorem dX9_leave_8 : decode cX9_leave 8 = .ok (.iload_n 2, 1) := by decide +kernel
theorem dX9_leave_9 : decode cX9_leave 9 = .ok (.invokestatic 83, 3) := by decide +kernel
theorem dX9_leave_12 : decode cX9_leave 12 = .ok (.ifCond .eq 20, 3) := by decide +kernel
theorem dX9_leave_15 : decode cX9_leave 15 = .ok (.iload_n 3, 1) := by decide +kernel
theorem dX9_leave_16 : decode cX9_leave 16 = .ok (.invokestatic 147, 3) := by decide +kernel
theorem dX9_leave_19 : decode cX9_leave 19 = .ok (.ifCond .eq 13, 3) := by decide +kernel
theorem dX9_leave_22 : decode cX9_leave 22 = .ok (.iload 4, 2) := by decide +kernel
theorem dX9_leave_24 : decode cX9_leave 24 = .ok (.iload 5, 2) := by decide +kernel
theorem dX9_leave_26 : decode cX9_leave 26 = .ok (.invokestatic 150, 3) := by decide +kernel
theorem dX9_leave_29 : decode cX9_leave 29 = .ok (.ifCond .ne 10, 3) := by decide +kernel
theorem dX9_leave_32 : decode cX9_leave 32 = .ok (.aload_n 0, 1) := by decide +kernel
theorem dX9_leave_33 : decode cX9_leave 33 = .ok (.bipush (-2), 2) := by decide +kernel
theorem dX9_leave_35 : decode cX9_leave 35 = .ok (.invokevirtual 62, 3) := by decide +kernel
theorem dX9_leave_38 : decode cX9_leave 38 = .ok (.ireturn, 1) := by decide +kernel
theorem dX9_leave_39 : decode cX9_leave 39 = .ok (.aload_n 0, 1) := by decide +kernel
theorem dX9_leave_40 : decode cX9_leave 40 = .ok (.getfield 7, 3) := by decide +kernel
theorem dX9_leave_43 : decode cX9_leave 43 = .ok (.iconst 2, 1) := by decide +kernel
theorem dX9_leave_44 : decode cX9_leave 44 = .ok (.iaload, 1) := by decide +kernel
theorem dX9_leave_45 : decode cX9_leave 45 = .ok (.bipush 8, 2) := by decide +kernel
theorem dX9_leave_47 : decode cX9_leave 47 = .ok (.if_icmp .ne 8, 3) := by decide +kernel
theorem dX9_leave_50 : decode cX9_leave 50 = .ok (.aload_n 0, 1) := by decide +kernel
theorem dX9_leave_51 : decode cX9_leave 51 = .ok (.invokevirtual 66, 3) := by decide +kernel
theorem dX9_leave_54 : decode cX9_leave 54 = .ok (.ireturn, 1) := by decide +kernel
theorem dX9_leave_55 : decode cX9_leave 55 = .ok (.bipush 86, 2) := by decide +kernel
theorem dX9_leave_57 : decode cX9_leave 57 = .ok (.iconst 5, 1) := by decide +kernel
theorem dX9_leave_58 : decode cX9_leave 58 = .ok (.aload_n 0, 1) := by decide +kernel
theorem dX9_leave_59 : decode cX9_leave 59 = .ok (.getfield 7, 3) := by decide +kernel
theorem dX9_leave_62 : decode cX9_leave 62 = .ok (.iconst 2, 1) := by decide +kernel
theorem dX9_leave_63 : decode cX9_leave 63 = .ok (.iaload, 1) := by decide +kernel
theorem dX9_leave_64 : decode cX9_leave 64 = .ok (.imul, 1) := by decide +kernel
theorem dX9_leave_65 : decode cX9_leave 65 = .ok (.iadd, 1) := by decide +kernel
theorem dX9_leave_66 : decode cX9_leave 66 = .ok (.istore 6, 2) := by decide +kernel
theorem dX9_leave_68 : decode cX9_leave 68 = .ok (.aload_n 0, 1) := by decide +kernel
theorem dX9_leave_69 : decode cX9_leave 69 = .ok (.getfield 7, 3) := by decide +kernel
theorem dX9_leave_72 : decode cX9_leave 72 = .ok (.iload 6, 2) := by decide +kernel
theorem dX9_leave_74 : decode cX9_leave 74 = .ok (.iload_n 1, 1) := by decide +kernel
theorem dX9_leave_75 : decode cX9_leave 75 = .ok (.iastore, 1) := by decide +kernel
theorem dX9_leave_76 : decode cX9_leave 76 = .ok (.aload_n 0, 1) := by decide +kernel
theorem dX9_leave_77 : decode cX9_leave 77 = .ok (.getfield 7, 3) := by decide +kernel
theorem dX9_leave_80 : decode cX9_leave 80 = .ok (.iload 6, 2) := by decide +kernel
theorem dX9_leave_82 : decode cX9_leave 82 = .ok (.iconst 1, 1) := by decide +kernel
theorem dX9_leave_83 : decode cX9_leave 83 = .ok (.iadd, 1) := by decide +kernel
theorem dX9_leave_84 : decode cX9_leave 84 = .ok (.iload_n 2, 1) := by decide +kernel
theorem dX9_leave_85 : decode cX9_leave 85 = .ok (.iastore, 1) := by decide +kernel
theorem dX9_leave_86 : decode cX9_leave 86 = .ok (.aload_n 0, 1) := by decide +kernel
theorem dX9_leave_87 : decode cX9_leave 87 = .ok (.getfield 7, 3) := by decide +kernel
theorem dX9_leave_90 : decode cX9_leave 90 = .ok (.iload 6, 2) := by decide +kernel
theorem dX9_leave_92 : decode cX9_leave 92 = .ok (.iconst 2, 1) := by decide +kernel
theorem dX9_leave_93 : decode cX9_leave 93 = .ok (.iadd, 1) := by decide +kernel
theorem dX9_leave_94 : decode cX9_leave 94 = .ok (.iload_n 3, 1) := by decide +kernel
theorem dX9_leave_95 : decode cX9_leave 95 = .ok (.iastore, 1) := by decide +kernel
theorem dX9_leave_96 : decode cX9_leave 96 = .ok (.aload_n 0, 1) := by decide +kernel
theorem dX9_leave_97 : decode cX9_leave 97 = .ok (.getfield 7, 3) := by decide +kernel
theorem dX9_leave_100 : decode cX9_leave 100 = .ok (.iload 6, 2) := by decide +kernel
theorem dX9_leave_102 : decode cX9_leave 102 = .ok (.iconst 3, 1) := by decide +kernel
theorem dX9_leave_103 : decode cX9_leave 103 = .ok (.iadd, 1) := by decide +kernel
theorem dX9_leave_104 : decode cX9_leave 104 = .ok (.iload 4, 2) := by decide +kernel
theorem dX9_leave_106 : decode cX9_leave 106 = .ok (.iastore, 1) := by decide +kernel
theorem dX9_leave_107 : decode cX9_leave 107 = .ok (.aload_n 0, 1) := by decide +kernel
theorem dX9_leave_108 : decode cX9_leave 108 = .ok (.getfield 7, 3) := by decide +kernel
theorem dX9_leave_111 : decode cX9_leave 111 = .ok (.iload 6, 2) := by decide +kernel
theorem dX9_leave_113 : decode cX9_leave 113 = .ok (.iconst 4, 1) := by decide +kernel
theorem dX9_leave_114 : decode cX9_leave 114 = .ok (.iadd, 1) := by decide +kernel
theorem dX9_leave_115 : decode cX9_leave 115 = .ok (.iload 5, 2) := by decide +kernel
theorem dX9_leave_117 : decode cX9_leave 117 = .ok (.iastore, 1) := by decide +kernel
theorem dX9_leave_118 : decode cX9_leave 118 = .ok (.aload_n 0, 1) := by decide +kernel
theorem dX9_leave_119 : decode cX9_leave 119 = .ok (.getfield 7, 3) := by decide +kernel
theorem dX9_leave_122 : decode cX9_leave 122 = .ok (.iconst 2, 1) := by decide +kernel
theorem dX9_leave_123 : decode cX9_leave 123 = .ok (.dup2, 1) := by decide +kernel
theorem dX9_leave_124 : decode cX9_leave 124 = .ok (.iaload, 1) := by decide +kernel
theorem dX9_leave_125 : decode cX9_leave 125 = .ok (.iconst 1, 1) := by decide +kernel
theorem dX9_leave_126 : decode cX9_leave 126 = .ok (.iadd, 1) := by decide +kernel
theorem dX9_leave_127 : decode cX9_leave 127 = .ok (.iastore, 1) := by decide +kernel
theorem dX9_leave_128 : decode cX9_leave 128 = .ok (.aload_n 0, 1) := by decide +kernel
theorem dX9_leave_129 : decode cX9_leave 129 = .ok (.getfield 7, 3) := by decide +kernel
theorem dX9_leave_132 : decode cX9_leave 132 = .ok (.iconst 2, 1) := by decide +kernel
theorem dX9_leave_133 : decode cX9_leave 133 = .ok (.iaload, 1) := by decide +kernel
theorem dX9_leave_134 : decode cX9_leave 134 = .ok (.iconst 1, 1) := by decide +kernel
theorem dX9_leave_135 : decode cX9_leave 135 = .ok (.isub, 1) := by decide +kernel
theorem dX9_leave_136 : decode cX9_leave 136 = .ok (.ireturn, 1) := by decide +kernel
theorem dX9_burn_0 : decode cX9_burn 0 = .ok (.aload_n 0, 1) := by decide +kernel
theorem dX9_burn_1 : decode cX9_burn 1 = .ok (.getfield 7, 3) := by decide +kernel
theorem dX9_burn_4 : decode cX9_burn 4 = .ok (.iconst 2, 1) := by decide +kernel
theorem dX9_burn_5 : decode cX9_burn 5 = .ok (.iaload, 1) := by decide +kernel
theorem dX9_burn_6 : decode cX9_burn 6 = .ok (.istore_n 1, 1) := by decide +kernel
theorem dX9_burn_7 : decode cX9_burn 7 = .ok (.aload_n 0, 1) := by decide +kernel
theorem dX9_burn_8 : decode cX9_burn 8 = .ok (.getfield 7, 3) := by decide +kernel
theorem dX9_burn_11 : decode cX9_burn 11 = .ok (.iconst 2, 1) := by decide +kernel
theorem dX9_burn_12 : decode cX9_burn 12 = .ok (.iconst 0, 1) := by decide +kernel
theorem dX9_burn_13 : decode cX9_burn 13 = .ok (.iastore, 1) := by decide +kernel
theorem dX9_burn_14 : decode cX9_burn 14 = .ok (.iload_n 1, 1) := by decide +kernel
theorem dX9_burn_15 : decode cX9_burn 15 = .ok (.ireturn, 1) := by decide +kernel
theorem dX9_forged_0 : decode cX9_forged 0 = .ok (.iconst 0, 1) := by decide +kernel
theorem dX9_forged_1 : decode cX9_forged 1 = .ok (.istore_n 1, 1) := by decide +kernel
theorem dX9_forged_2 : decode cX9_forged 2 = .ok (.iconst 0, 1) := by decide +kernel
theorem dX9_forged_3 : decode cX9_forged 3 = .ok (.istore_n 2, 1) := by decide +kernel
theorem dX9_forged_4 : decode cX9_forged 4 = .ok (.iload_n 2, 1) := by decide +kernel
theorem dX9_forged_5 : decode cX9_forged 5 = .ok (.aload_n 0, 1) := by decide +kernel
theorem dX9_forged_6 : decode cX9_forged 6 = .ok (.getfield 7, 3) := by decide +kernel
theorem dX9_forged_9 : decode cX9_forged 9 = .ok (.iconst 2, 1) := by decide +kernel
theorem dX9_forged_10 : decode cX9_forged 10 = .ok (.iaload, 1) := by decide +kernel
theorem dX9_forged_11 : decode cX9_forged 11 = .ok (.if_icmp .ge 72, 3) := by decide +kernel
theorem dX9_forged_14 : decode cX9_forged 14 = .ok (.bipush 86, 2) := by decide +kernel
theorem dX9_forged_16 : decode cX9_forged 16 = .ok (.iconst 5, 1) := by decide +kernel
theorem dX9_forged_17 : decode cX9_forged 17 = .ok (.iload_n 2, 1) := by decide +kernel
theorem dX9_forged_18 : decode cX9_forged 18 = .ok (.imul, 1) := by decide +kernel
theorem dX9_forged_19 : decode cX9_forged 19 = .ok (.iadd, 1) := by decide +kernel
theorem dX9_forged_20 : decode cX9_forged 20 = .ok (.istore_n 3, 1) := by decide +kernel
theorem dX9_forged_21 : decode cX9_forged 21 = .ok (.iload_n 1, 1) := by decide +kernel
theorem dX9_forged_22 : decode cX9_forged 22 = .ok (.aload_n 0, 1) := by decide +kernel
theorem dX9_forged_23 : decode cX9_forged 23 = .ok (.aload_n 0, 1) := by decide +kernel
theorem dX9_forged_24 : decode cX9_forged 24 = .ok (.getfield 7, 3) := by decide +kernel
theorem dX9_forged_27 : decode cX9_forged 27 = .ok (.iload_n 3, 1) := by decide +kernel
theorem dX9_forged_28 : decode cX9_forged 28 = .ok (.iaload, 1) := by decide +kernel
theorem dX9_forged_29 : decode cX9_forged 29 = .ok (.aload_n 0, 1) := by decide +kernel
theorem dX9_forged_30 : decode cX9_forged 30 = .ok (.getfield 7, 3) := by decide +kernel
theorem dX9_forged_33 : decode cX9_forged 33 = .ok (.iload_n 3, 1) := by decide +kernel
theorem dX9_forged_34 : decode cX9_forged 34 = .ok (.iconst 1, 1) := by decide +kernel
theorem dX9_forged_35 : decode cX9_forged 35 = .ok (.iadd, 1) := by decide +kernel
theorem dX9_forged_36 : decode cX9_forged 36 = .ok (.iaload, 1) := by decide +kernel
theorem dX9_forged_37 : decode cX9_forged 37 = .ok (.aload_n 0, 1) := by decide +kernel
theorem dX9_forged_38 : decode cX9_forged 38 = .ok (.getfield 7, 3) := by decide +kernel
theorem dX9_forged_41 : decode cX9_forged 41 = .ok (.iload_n 3, 1) := by decide +kernel
theorem dX9_forged_42 : decode cX9_forged 42 = .ok (.iconst 2, 1) := by decide +kernel
theorem dX9_forged_43 : decode cX9_forged 43 = .ok (.iadd, 1) := by decide +kernel
theorem dX9_forged_44 : decode cX9_forged 44 = .ok (.iaload, 1) := by decide +kernel
theorem dX9_forged_45 : decode cX9_forged 45 = .ok (.aload_n 0, 1) := by decide +kernel
theorem dX9_forged_46 : decode cX9_forged 46 = .ok (.getfield 7, 3) := by decide +kernel
theorem dX9_forged_49 : decode cX9_forged 49 = .ok (.iload_n 3, 1) := by decide +kernel
theorem dX9_forged_50 : decode cX9_forged 50 = .ok (.iconst 3, 1) := by decide +kernel
theorem dX9_forged_51 : decode cX9_forged 51 = .ok (.iadd, 1) := by decide +kernel
theorem dX9_forged_52 : decode cX9_forged 52 = .ok (.iaload, 1) := by decide +kernel
theorem dX9_forged_53 : decode cX9_forged 53 = .ok (.aload_n 0, 1) := by decide +kernel
theorem dX9_forged_54 : decode cX9_forged 54 = .ok (.getfield 7, 3) := by decide +kernel
theorem dX9_forged_57 : decode cX9_forged 57 = .ok (.iload_n 3, 1) := by decide +kernel
theorem dX9_forged_58 : decode cX9_forged 58 = .ok (.iconst 4, 1) := by decide +kernel
theorem dX9_forged_59 : decode cX9_forged 59 = .ok (.iadd, 1) := by decide +kernel
theorem dX9_forged_60 : decode cX9_forged 60 = .ok (.iaload, 1) := by decide +kernel
theorem dX9_forged_61 : decode cX9_forged 61 = .ok (.iconst 0, 1) := by decide +kernel
theorem dX9_forged_62 : decode cX9_forged 62 = .ok (.invokevirtual 161, 3) := by decide +kernel
theorem dX9_forged_65 : decode cX9_forged 65 = .ok (.ifCond .eq 7, 3) := by decide +kernel
theorem dX9_forged_68 : decode cX9_forged 68 = .ok (.iconst 0, 1) := by decide +kernel
theorem dX9_forged_69 : decode cX9_forged 69 = .ok (.goto 6, 3) := by decide +kernel
theorem dX9_forged_72 : decode cX9_forged 72 = .ok (.iconst 1, 1) := by decide +kernel
theorem dX9_forged_73 : decode cX9_forged 73 = .ok (.iload_n 2, 1) := by decide +kernel
theorem dX9_forged_74 : decode cX9_forged 74 = .ok (.ishl, 1) := by decide +kernel
theorem dX9_forged_75 : decode cX9_forged 75 = .ok (.ior, 1) := by decide +kernel
theorem dX9_forged_76 : decode cX9_forged 76 = .ok (.istore_n 1, 1) := by decide +kernel
theorem dX9_forged_77 : decode cX9_forged 77 = .ok (.iinc 2 1, 3) := by decide +kernel
theorem dX9_forged_80 : decode cX9_forged 80 = .ok (.goto (-76), 3) := by decide +kernel
theorem dX9_forged_83 : decode cX9_forged 83 = .ok (.iload_n 1, 1) := by decide +kernel
theorem dX9_forged_84 : decode cX9_forged 84 = .ok (.ireturn, 1) := by decide +kernel
theorem dX9_whose_0 : decode cX9_whose 0 = .ok (.aload_n 0, 1) := by decide +kernel
theorem dX9_whose_1 : decode cX9_whose 1 = .ok (.iload_n 1, 1) := by decide +kernel
theorem dX9_whose_2 : decode cX9_whose 2 = .ok (.invokevirtual 73, 3) := by decide +kernel
theorem dX9_whose_5 : decode cX9_whose 5 = .ok (.ifCond .eq 40, 3) := by decide +kernel
theorem dX9_whose_8 : decode cX9_whose 8 = .ok (.iload_n 2, 1) := by decide +kernel
theorem dX9_whose_9 : decode cX9_whose 9 = .ok (.i2l, 1) := by decide +kernel
theorem dX9_whose_10 : decode cX9_whose 10 = .ok (.lconst 0, 1) := by decide +kernel
theorem dX9_whose_11 : decode cX9_whose 11 = .ok (.ldc2_w 190, 3) := by decide +kernel
theorem dX9_whose_14 : decode cX9_whose 14 = .ok (.invokestatic 43, 3) := by decide +kernel
theorem dX9_whose_17 : decode cX9_whose 17 = .ok (.ifCond .eq 28, 3) := by decide +kernel
theorem dX9_whose_20 : decode cX9_whose 20 = .ok (.iload_n 3, 1) := by decide +kernel
theorem dX9_whose_21 : decode cX9_whose 21 = .ok (.invokestatic 83, 3) := by decide +kernel
theorem dX9_whose_24 : decode cX9_whose 24 = .ok (.ifCond .eq 21, 3) := by decide +kernel
theorem dX9_whose_27 : decode cX9_whose 27 = .ok (.iload 4, 2) := by decide +kernel
theorem dX9_whose_29 : decode cX9_whose 29 = .ok (.invokestatic 147, 3) := by decide +kernel
theorem dX9_whose_32 : decode cX9_whose 32 = .ok (.ifCond .eq 13, 3) := by decide +kernel
theorem dX9_whose_35 : decode cX9_whose 35 = .ok (.iload 5, 2) := by decide +kernel
theorem dX9_whose_37 : decode cX9_whose 37 = .ok (.iload 6, 2) := by decide +kernel
theorem dX9_whose_39 : decode cX9_whose 39 = .ok (.invokestatic 150, 3) := by decide +kernel
theorem dX9_whose_42 : decode cX9_whose 42 = .ok (.ifCond .ne 10, 3) := by decide +kernel
theorem dX9_whose_45 : decode cX9_whose 45 = .ok (.aload_n 0, 1) := by decide +kernel
theorem dX9_whose_46 : decode cX9_whose 46 = .ok (.bipush (-2), 2) := by decide +kernel
theorem dX9_whose_48 : decode cX9_whose 48 = .ok (.invokevirtual 62, 3) := by decide +kernel
theorem dX9_whose_51 : decode cX9_whose 51 = .ok (.ireturn, 1) := by decide +kernel
theorem dX9_whose_52 : decode cX9_whose 52 = .ok (.iconst 0, 1) := by decide +kernel
theorem dX9_whose_53 : decode cX9_whose 53 = .ok (.istore 7, 2) := by decide +kernel
theorem dX9_whose_55 : decode cX9_whose 55 = .ok (.aload_n 0, 1) := by decide +kernel
theorem dX9_whose_56 : decode cX9_whose 56 = .ok (.iload_n 1, 1) := by decide +kernel
theorem dX9_whose_57 : decode cX9_whose 57 = .ok (.invokevirtual 155, 3) := by decide +kernel
theorem dX9_whose_60 : decode cX9_whose 60 = .ok (.iconst 0, 1) := by decide +kernel
theorem dX9_whose_61 : decode cX9_whose 61 = .ok (.istore 8, 2) := by decide +kernel
theorem dX9_whose_63 : decode cX9_whose 63 = .ok (.iload 8, 2) := by decide +kernel
theorem dX9_whose_65 : decode cX9_whose 65 = .ok (.aload_n 0, 1) := by decide +kernel
theorem dX9_whose_66 : decode cX9_whose 66 = .ok (.invokevirtual 39, 3) := by decide +kernel
theorem dX9_whose_69 : decode cX9_whose 69 = .ok (.if_icmp .ge 50, 3) := by decide +kernel
theorem dX9_whose_72 : decode cX9_whose 72 = .ok (.iload 7, 2) := by decide +kernel
theorem dX9_whose_74 : decode cX9_whose 74 = .ok (.aload_n 0, 1) := by decide +kernel
theorem dX9_whose_75 : decode cX9_whose 75 = .ok (.getfield 27, 3) := by decide +kernel
theorem dX9_whose_78 : decode cX9_whose 78 = .ok (.iload 8, 2) := by decide +kernel
theorem dX9_whose_80 : decode cX9_whose 80 = .ok (.iaload, 1) := by decide +kernel
theorem dX9_whose_81 : decode cX9_whose 81 = .ok (.iload_n 2, 1) := by decide +kernel
theorem dX9_whose_82 : decode cX9_whose 82 = .ok (.if_icmp .gt 27, 3) := by decide +kernel
theorem dX9_whose_85 : decode cX9_whose 85 = .ok (.aload_n 0, 1) := by decide +kernel
theorem dX9_whose_86 : decode cX9_whose 86 = .ok (.iload 8, 2) := by decide +kernel
theorem dX9_whose_88 : decode cX9_whose 88 = .ok (.iload_n 3, 1) := by decide +kernel
theorem dX9_whose_89 : decode cX9_whose 89 = .ok (.iload 4, 2) := by decide +kernel
theorem dX9_whose_91 : decode cX9_whose 91 = .ok (.iload 5, 2) := by decide +kernel
theorem dX9_whose_93 : decode cX9_whose 93 = .ok (.iload 6, 2) := by decide +kernel
theorem dX9_whose_95 : decode cX9_whose 95 = .ok (.iconst 0, 1) := by decide +kernel
theorem dX9_whose_96 : decode cX9_whose 96 = .ok (.invokevirtual 161, 3) := by decide +kernel
theorem dX9_whose_99 : decode cX9_whose 99 = .ok (.ifCond .eq 10, 3) := by decide +kernel
theorem dX9_whose_102 : decode cX9_whose 102 = .ok (.iconst 1, 1) := by decide +kernel
theorem dX9_whose_103 : decode cX9_whose 103 = .ok (.iload 8, 2) := by decide +kernel
theorem dX9_whose_105 : decode cX9_whose 105 = .ok (.ishl, 1) := by decide +kernel
theorem dX9_whose_106 : decode cX9_whose 106 = .ok (.goto 4, 3) := by decide +kernel
theorem dX9_whose_109 : decode cX9_whose 109 = .ok (.iconst 0, 1) := by decide +kernel
theorem dX9_whose_110 : decode cX9_whose 110 = .ok (.ior, 1) := by decide +kernel
theorem dX9_whose_111 : decode cX9_whose 111 = .ok (.istore 7, 2) := by decide +kernel
theorem dX9_whose_113 : decode cX9_whose 113 = .ok (.iinc 8 1, 3) := by decide +kernel
theorem dX9_whose_116 : decode cX9_whose 116 = .ok (.goto (-53), 3) := by decide +kernel
theorem dX9_whose_119 : decode cX9_whose 119 = .ok (.iload 7, 2) := by decide +kernel
theorem dX9_whose_121 : decode cX9_whose 121 = .ok (.ireturn, 1) := by decide +kernel
theorem dX9_fraction_0 : decode cX9_fraction 0 = .ok (.iload_n 1, 1) := by decide +kernel
theorem dX9_fraction_1 : decode cX9_fraction 1 = .ok (.istore_n 3, 1) := by decide +kernel
theorem dX9_fraction_2 : decode cX9_fraction 2 = .ok (.iload_n 2, 1) := by decide +kernel
theorem dX9_fraction_3 : decode cX9_fraction 3 = .ok (.istore 4, 2) := by decide +kernel
theorem dX9_fraction_5 : decode cX9_fraction 5 = .ok (.iload 4, 2) := by decide +kernel
theorem dX9_fraction_7 : decode cX9_fraction 7 = .ok (.ifCond .eq 19, 3) := by decide +kernel
theorem dX9_fraction_10 : decode cX9_fraction 10 = .ok (.iload_n 3, 1) := by decide +kernel
theorem dX9_fraction_11 : decode cX9_fraction 11 = .ok (.iload 4, 2) := by decide +kernel
theorem dX9_fraction_13 : decode cX9_fraction 13 = .ok (.irem, 1) := by decide +kernel
theorem dX9_fraction_14 : decode cX9_fraction 14 = .ok (.istore 5, 2) := by decide +kernel
theorem dX9_fraction_16 : decode cX9_fraction 16 = .ok (.iload 4, 2) := by decide +kernel
theorem dX9_fraction_18 : decode cX9_fraction 18 = .ok (.istore_n 3, 1) := by decide +kernel
theorem dX9_fraction_19 : decode cX9_fraction 19 = .ok (.iload 5, 2) := by decide +kernel
theorem dX9_fraction_21 : decode cX9_fraction 21 = .ok (.istore 4, 2) := by decide +kernel
theorem dX9_fraction_23 : decode cX9_fraction 23 = .ok (.goto (-18), 3) := by decide +kernel
theorem dX9_fraction_26 : decode cX9_fraction 26 = .ok (.aload_n 0, 1) := by decide +kernel
theorem dX9_fraction_27 : decode cX9_fraction 27 = .ok (.iload_n 1, 1) := by decide +kernel
theorem dX9_fraction_28 : decode cX9_fraction 28 = .ok (.iload_n 3, 1) := by decide +kernel
theorem dX9_fraction_29 : decode cX9_fraction 29 = .ok (.idiv, 1) := by decide +kernel
theorem dX9_fraction_30 : decode cX9_fraction 30 = .ok (.i2l, 1) := by decide +kernel
theorem dX9_fraction_31 : decode cX9_fraction 31 = .ok (.putfield 192, 3) := by decide +kernel
theorem dX9_fraction_34 : decode cX9_fraction 34 = .ok (.aload_n 0, 1) := by decide +kernel
theorem dX9_fraction_35 : decode cX9_fraction 35 = .ok (.iload_n 2, 1) := by decide +kernel
theorem dX9_fraction_36 : decode cX9_fraction 36 = .ok (.iload_n 3, 1) := by decide +kernel
theorem dX9_fraction_37 : decode cX9_fraction 37 = .ok (.idiv, 1) := by decide +kernel
theorem dX9_fraction_38 : decode cX9_fraction 38 = .ok (.i2l, 1) := by decide +kernel
theorem dX9_fraction_39 : decode cX9_fraction 39 = .ok (.putfield 23, 3) := by decide +kernel
theorem dX9_fraction_42 : decode cX9_fraction 42 = .ok (.return_, 1) := by decide +kernel
theorem dX9_odds_0 : decode cX9_odds 0 = .ok (.aload_n 0, 1) := by decide +kernel
theorem dX9_odds_1 : decode cX9_odds 1 = .ok (.iload_n 1, 1) := by decide +kernel
theorem dX9_odds_2 : decode cX9_odds 2 = .ok (.invokevirtual 73, 3) := by decide +kernel
theorem dX9_odds_5 : decode cX9_odds 5 = .ok (.ifCond .eq 41, 3) := by decide +kernel
theorem dX9_odds_8 : decode cX9_odds 8 = .ok (.iload_n 2, 1) := by decide +kernel
theorem dX9_odds_9 : decode cX9_odds 9 = .ok (.invokestatic 83, 3) := by decide +kernel
theorem dX9_odds_12 : decode cX9_odds 12 = .ok (.ifCond .eq 34, 3) := by decide +kernel
theorem dX9_odds_15 : decode cX9_odds 15 = .ok (.iload_n 3, 1) := by decide +kernel
theorem dX9_odds_16 : decode cX9_odds 16 = .ok (.invokestatic 147, 3) := by decide +kernel
theorem dX9_odds_19 : decode cX9_odds 19 = .ok (.ifCond .eq 27, 3) := by decide +kernel
theorem dX9_odds_22 : decode cX9_odds 22 = .ok (.iload 4, 2) := by decide +kernel
theorem dX9_odds_24 : decode cX9_odds 24 = .ok (.invokestatic 147, 3) := by decide +kernel
theorem dX9_odds_27 : decode cX9_odds 27 = .ok (.ifCond .eq 19, 3) := by decide +kernel
theorem dX9_odds_30 : decode cX9_odds 30 = .ok (.iload_n 3, 1) := by decide +kernel
theorem dX9_odds_31 : decode cX9_odds 31 = .ok (.iload 4, 2) := by decide +kernel
theorem dX9_odds_33 : decode cX9_odds 33 = .ok (.if_icmp .gt 13, 3) := by decide +kernel
theorem dX9_odds_36 : decode cX9_odds 36 = .ok (.iload 5, 2) := by decide +kernel
theorem dX9_odds_38 : decode cX9_odds 38 = .ok (.iload 6, 2) := by decide +kernel
theorem dX9_odds_40 : decode cX9_odds 40 = .ok (.invokestatic 150, 3) := by decide +kernel
theorem dX9_odds_43 : decode cX9_odds 43 = .ok (.ifCond .ne 10, 3) := by decide +kernel
theorem dX9_odds_46 : decode cX9_odds 46 = .ok (.aload_n 0, 1) := by decide +kernel
theorem dX9_odds_47 : decode cX9_odds 47 = .ok (.bipush (-2), 2) := by decide +kernel
theorem dX9_odds_49 : decode cX9_odds 49 = .ok (.invokevirtual 62, 3) := by decide +kernel
theorem dX9_odds_52 : decode cX9_odds 52 = .ok (.ireturn, 1) := by decide +kernel
theorem dX9_odds_53 : decode cX9_odds 53 = .ok (.iconst 0, 1) := by decide +kernel
theorem dX9_odds_54 : decode cX9_odds 54 = .ok (.istore 7, 2) := by decide +kernel
theorem dX9_odds_56 : decode cX9_odds 56 = .ok (.iload_n 3, 1) := by decide +kernel
theorem dX9_odds_57 : decode cX9_odds 57 = .ok (.istore 8, 2) := by decide +kernel
theorem dX9_odds_59 : decode cX9_odds 59 = .ok (.iload 8, 2) := by decide +kernel
theorem dX9_odds_61 : decode cX9_odds 61 = .ok (.iload 4, 2) := by decide +kernel
theorem dX9_odds_63 : decode cX9_odds 63 = .ok (.if_icmp .gt 35, 3) := by decide +kernel
theorem dX9_odds_66 : decode cX9_odds 66 = .ok (.iload 7, 2) := by decide +kernel
theorem dX9_odds_68 : decode cX9_odds 68 = .ok (.aload_n 0, 1) := by decide +kernel
theorem dX9_odds_69 : decode cX9_odds 69 = .ok (.iload_n 1, 1) := by decide +kernel
theorem dX9_odds_70 : decode cX9_odds 70 = .ok (.iload_n 2, 1) := by decide +kernel
theorem dX9_odds_71 : decode cX9_odds 71 = .ok (.iload 8, 2) := by decide +kernel
theorem dX9_odds_73 : decode cX9_odds 73 = .ok (.iload 5, 2) := by decide +kernel
theorem dX9_odds_75 : decode cX9_odds 75 = .ok (.iload 6, 2) := by decide +kernel
theorem dX9_odds_77 : decode cX9_odds 77 = .ok (.iconst 0, 1) := by decide +kernel
theorem dX9_odds_78 : decode cX9_odds 78 = .ok (.invokevirtual 161, 3) := by decide +kernel
theorem dX9_odds_81 : decode cX9_odds 81 = .ok (.ifCond .eq 7, 3) := by decide +kernel
theorem dX9_odds_84 : decode cX9_odds 84 = .ok (.iconst 0, 1) := by decide +kernel
theorem dX9_odds_85 : decode cX9_odds 85 = .ok (.goto 4, 3) := by decide +kernel
theorem dX9_odds_88 : decode cX9_odds 88 = .ok (.iconst 1, 1) := by decide +kernel
theorem dX9_odds_89 : decode cX9_odds 89 = .ok (.iadd, 1) := by decide +kernel
theorem dX9_odds_90 : decode cX9_odds 90 = .ok (.istore 7, 2) := by decide +kernel
theorem dX9_odds_92 : decode cX9_odds 92 = .ok (.iinc 8 1, 3) := by decide +kernel
theorem dX9_odds_95 : decode cX9_odds 95 = .ok (.goto (-36), 3) := by decide +kernel
theorem dX9_odds_98 : decode cX9_odds 98 = .ok (.aload_n 0, 1) := by decide +kernel
theorem dX9_odds_99 : decode cX9_odds 99 = .ok (.iload 7, 2) := by decide +kernel
theorem dX9_odds_101 : decode cX9_odds 101 = .ok (.iload 4, 2) := by decide +kernel
theorem dX9_odds_103 : decode cX9_odds 103 = .ok (.iload_n 3, 1) := by decide +kernel
theorem dX9_odds_104 : decode cX9_odds 104 = .ok (.isub, 1) := by decide +kernel
theorem dX9_odds_105 : decode cX9_odds 105 = .ok (.iconst 1, 1) := by decide +kernel
theorem dX9_odds_106 : decode cX9_odds 106 = .ok (.iadd, 1) := by decide +kernel
theorem dX9_odds_107 : decode cX9_odds 107 = .ok (.invokevirtual 195, 3) := by decide +kernel
theorem dX9_odds_110 : decode cX9_odds 110 = .ok (.iconst 1, 1) := by decide +kernel
theorem dX9_odds_111 : decode cX9_odds 111 = .ok (.ireturn, 1) := by decide +kernel
theorem kX9_patience : zCV yX9_patience RX9 cX9_patience 6 (some .int) 4 := ⟨q4_235, q4_236, q1_3, q4_237, rfl, by decide +kernel, by decide +kernel, by decide +kernel⟩
theorem kX9_orNever : zCS yX9_orNever cX9_orNever 1 (some .int) 1 := ⟨q5_12, q1_3, q5_13, by decide +kernel, by decide +kernel, by decide +kernel⟩
theorem kX9_concede : zCV yX9_concede RX9 cX9_concede 5 (some .int) 4 := ⟨q5_8, q5_9, q1_3, q5_10, rfl, by decide +kernel, by decide +kernel, by decide +kernel⟩
theorem kX9_presses : zCV yX9_presses RX9 cX9_presses 8 (some .int) 2 := ⟨q5_15, q5_16, q1_3, q5_17, rfl, by decide +kernel, by decide +kernel, by decide +kernel⟩
theorem kX9_leave : zCV yX9_leave RX9 cX9_leave 7 (some .int) 5 := ⟨q5_19, q5_20, q1_3, q5_21, rfl, by decide +kernel, by decide +kernel, by decide +kernel⟩
theorem kX9_burn : zCV yX9_burn RX9 cX9_burn 2 (some .int) 0 := ⟨q5_23, q5_24, q1_3, q5_25, rfl, by decide +kernel, by decide +kernel, by decide +kernel⟩
theorem kX9_forged : zCV yX9_forged RX9 cX9_forged 4 (some .int) 0 := ⟨q5_27, q5_28, q1_3, q5_29, rfl, by decide +kernel, by decide +kernel, by decide +kernel⟩
theorem kX9_whose : zCV yX9_whose RX9 cX9_whose 9 (some .int) 6 := ⟨q5_31, q5_32, q1_3, q5_33, rfl, by decide +kernel, by decide +kernel, by decide +kernel⟩
theorem kX9_fraction : zCV yX9_fraction RX9 cX9_fraction 6 none 2 := ⟨q5_41, qp36, q1_3, q5_42, rfl, by decide +kernel, by decide +kernel, by decide +kernel⟩
theorem kX9_odds : zCV yX9_odds RX9 cX9_odds 9 (some .int) 6 := ⟨q5_36, q5_37, q1_3, q5_38, rfl, by decide +kernel, by decide +kernel, by decide +kernel⟩
set_option maxHeartbeats 4000000 in
set_option maxRecDepth 100000 in
theorem c_X9_patience (l : Launch) (g : zG) (o : Nat) (a : Nat → Nat) (F : Nat → Int32) (L : Nat → Int64) (A : Nat → Nat → Int32) (X : va_W) (T : Nat) (C : Nat) (V : Nat) (U : Nat) (k : Int32) (q : Int32) (ac : Int32) (w : Int32) (hn : nOK (A 0) T C V U) : Met l yX9_patience (Cond.code yX9_patience cX9_patience 6 (some .int) :: TBL) { frames := 8, cells := 0, slots := 0, locals := 209 } (zPc [.ref o, .int k, .int q, .int ac, .int w] g (mW g o a F L A ++ X)) (zQi g (fun r ws => ∃ (F1 : Nat → Int32), r = (patienceR (A 0) T C k q ac w) ∧ ws = mW g o a F1 L (chk (patOK k q ac && pIn 0 1 w) A) ++ X ∧ F1 16 = F 16)) 0 0 (zA (gz g)) := by
  refine z_start (by decide +kernel) rfl (Nat.le_of_ble_eq_true rfl) ?_
  intro p e s m args below meth c ls hE hr hnm hB hl
  have hl : lv_has ls 6 [(0, .ref o), (1, .int k), (2, .int q), (3, .int ac), (4, .int w)] := hl
  revert hB
  generalize s.heap = H
  generalize ([] : List Loc) = locs
  intro hB
  have hT := hn.T
  have hT6 := hn.T6
  have hC := hn.C
  have hC8 := hn.C8
  have hV := hn.V
  have hV8 := hn.V8
  have hU := hn.U
  have hU8 := hn.U8
  refine lv_iload_n hE.x hE.b dX9_patience_0 rfl (lv_at hl 1 rfl) ?_
  refine lv_i2l hE.x hE.b dX9_patience_1 rfl ?_
  refine lv_lconst (v := lN 0) hE.x hE.b dX9_patience_2 rfl ?_
  refine lv_ldc2 (v := lN 99) hE.x hE.b hE.o (hE.t _ q4_238) dX9_patience_3 ?_
  refine z_qi hB (z_cS hE hB (c_X9_in l g (Int32.toInt64 k) (lN 0) (lN 99) (Int32.toInt k) 0 99 (mW g o a F L A ++ X) (Int32.toInt_toInt64 _) (by decide) (by decide)) q4_88 kX9_in ⟨rfl, rfl⟩ ⟨Nat.le_of_ble_eq_true rfl, Nat.le_of_ble_eq_true rfl⟩ rfl hl.1 rfl (Nat.le_of_ble_eq_true rfl) dX9_patience_6 ⟨Nat.le_of_ble_eq_true rfl, Nat.le_of_ble_eq_true rfl⟩) (fun r_1 w_2 H locs hw hB => ?_)
  obtain ⟨hr9, hw9⟩ := hw
  have hr9 := hr9.symm
  subst hr9
  have hw9 := hw9.symm
  subst hw9
  refine z_bf (b := (inZ 0 99 (Int32.toInt k))) (tgt := 42) hE dX9_patience_9 (by decide) (fun c_3 => ?_) (fun c_3 => ?_)
  · refine lv_aload_n hE.x hE.b dX9_patience_42 rfl (lv_at hl 0 rfl) ?_
    refine lv_bipush (v := (-2)) hE.x hE.b dX9_patience_43 rfl ?_
    refine z_qi hB (z_cV hE hB (c_X9_bad l g o a F L A X (-2)) q4_91 kX9_bad ⟨rfl, rfl⟩ ⟨Nat.le_of_ble_eq_true rfl, Nat.le_of_ble_eq_true rfl⟩ 0 rfl rfl rfl hl.1 rfl (Nat.le_of_ble_eq_true rfl) dX9_patience_45 ⟨Nat.le_of_ble_eq_true rfl, Nat.le_of_ble_eq_true rfl⟩) (fun r_4 w_5 H locs hw hB => ?_)
    obtain ⟨hr9, hw9⟩ := hw
    have hr9 := hr9.symm
    subst hr9
    have hw9 := hw9.symm
    subst hw9
    exact z_iret (v := (-2)) (ws := mW g o a F L (bump 0 A) ++ X) hE hB hr (⟨F, by unfold patienceR patOK; simp only [c_3, Bool.and_false, Bool.false_and, Bool.false_eq_true, if_false, Bool.and_true, Bool.true_and], by unfold chk patOK; simp only [c_3, Bool.and_false, Bool.false_and, Bool.false_eq_true, if_false, Bool.and_true, Bool.true_and], rfl⟩) dX9_patience_48
  · refine lv_iload_n hE.x hE.b dX9_patience_12 rfl (lv_at hl 2 rfl) ?_
    refine lv_i2l hE.x hE.b dX9_patience_13 rfl ?_
    refine lv_lconst (v := lN 0) hE.x hE.b dX9_patience_14 rfl ?_
    refine lv_ldc2 (v := lN 99) hE.x hE.b hE.o (hE.t _ q4_238) dX9_patience_15 ?_
    refine z_qi hB (z_cS hE hB (c_X9_in l g (Int32.toInt64 q) (lN 0) (lN 99) (Int32.toInt q) 0 99 (mW g o a F L A ++ X) (Int32.toInt_toInt64 _) (by decide) (by decide)) q4_88 kX9_in ⟨rfl, rfl⟩ ⟨Nat.le_of_ble_eq_true rfl, Nat.le_of_ble_eq_true rfl⟩ rfl hl.1 rfl (Nat.le_of_ble_eq_true rfl) dX9_patience_18 ⟨Nat.le_of_ble_eq_true rfl, Nat.le_of_ble_eq_true rfl⟩) (fun r_6 w_7 H locs hw hB => ?_)
    obtain ⟨hr9, hw9⟩ := hw
    have hr9 := hr9.symm
    subst hr9
    have hw9 := hw9.symm
    subst hw9
    refine z_bf (b := (inZ 0 99 (Int32.toInt q))) (tgt := 42) hE dX9_patience_21 (by decide) (fun c_8 => ?_) (fun c_8 => ?_)
    · refine lv_aload_n hE.x hE.b dX9_patience_42 rfl (lv_at hl 0 rfl) ?_
      refine lv_bipush (v := (-2)) hE.x hE.b dX9_patience_43 rfl ?_
      refine z_qi hB (z_cV hE hB (c_X9_bad l g o a F L A X (-2)) q4_91 kX9_bad ⟨rfl, rfl⟩ ⟨Nat.le_of_ble_eq_true rfl, Nat.le_of_ble_eq_true rfl⟩ 0 rfl rfl rfl hl.1 rfl (Nat.le_of_ble_eq_true rfl) dX9_patience_45 ⟨Nat.le_of_ble_eq_true rfl, Nat.le_of_ble_eq_true rfl⟩) (fun r_9 w_10 H locs hw hB => ?_)
      obtain ⟨hr9, hw9⟩ := hw
      have hr9 := hr9.symm
      subst hr9
      have hw9 := hw9.symm
      subst hw9
      exact z_iret (v := (-2)) (ws := mW g o a F L (bump 0 A) ++ X) hE hB hr (⟨F, by unfold patienceR patOK; simp only [c_3, c_8, Bool.and_false, Bool.false_and, Bool.false_eq_true, if_false, Bool.and_true, Bool.true_and], by unfold chk patOK; simp only [c_3, c_8, Bool.and_false, Bool.false_and, Bool.false_eq_true, if_false, Bool.and_true, Bool.true_and], rfl⟩) dX9_patience_48
    · refine lv_iload_n hE.x hE.b dX9_patience_24 rfl (lv_at hl 3 rfl) ?_
      refine z_qi hB (z_cS hE hB (c_X9_areActs l g ac (mW g o a F L A ++ X)) q4_219 kX9_areActs ⟨rfl, rfl⟩ ⟨Nat.le_of_ble_eq_true rfl, Nat.le_of_ble_eq_true rfl⟩ rfl hl.1 rfl (Nat.le_of_ble_eq_true rfl) dX9_patience_25 ⟨Nat.le_of_ble_eq_true rfl, Nat.le_of_ble_eq_true rfl⟩) (fun r_11 w_12 H locs hw hB => ?_)
      obtain ⟨hr9, hw9⟩ := hw
      have hr9 := hr9.symm
      subst hr9
      have hw9 := hw9.symm
      subst hw9
      refine z_bf (b := (pIn 0 63 ac)) (tgt := 42) hE dX9_patience_28 (by decide) (fun c_13 => ?_) (fun c_13 => ?_)
      · refine lv_aload_n hE.x hE.b dX9_patience_42 rfl (lv_at hl 0 rfl) ?_
        refine lv_bipush (v := (-2)) hE.x hE.b dX9_patience_43 rfl ?_
        refine z_qi hB (z_cV hE hB (c_X9_bad l g o a F L A X (-2)) q4_91 kX9_bad ⟨rfl, rfl⟩ ⟨Nat.le_of_ble_eq_true rfl, Nat.le_of_ble_eq_true rfl⟩ 0 rfl rfl rfl hl.1 rfl (Nat.le_of_ble_eq_true rfl) dX9_patience_45 ⟨Nat.le_of_ble_eq_true rfl, Nat.le_of_ble_eq_true rfl⟩) (fun r_14 w_15 H locs hw hB => ?_)
        obtain ⟨hr9, hw9⟩ := hw
        have hr9 := hr9.symm
        subst hr9
        have hw9 := hw9.symm
        subst hw9
        exact z_iret (v := (-2)) (ws := mW g o a F L (bump 0 A) ++ X) hE hB hr (⟨F, by unfold patienceR patOK; simp only [c_3, c_8, c_13, Bool.and_false, Bool.false_and, Bool.false_eq_true, if_false, Bool.and_true, Bool.true_and], by unfold chk patOK; simp only [c_3, c_8, c_13, Bool.and_false, Bool.false_and, Bool.false_eq_true, if_false, Bool.and_true, Bool.true_and], rfl⟩) dX9_patience_48
      · refine lv_iload hE.x hE.b dX9_patience_31 (lv_at hl 4 rfl) ?_
        refine lv_i2l hE.x hE.b dX9_patience_33 rfl ?_
        refine lv_lconst (v := lN 0) hE.x hE.b dX9_patience_34 rfl ?_
        refine lv_lconst (v := lN 1) hE.x hE.b dX9_patience_35 rfl ?_
        refine z_qi hB (z_cS hE hB (c_X9_in l g (Int32.toInt64 w) (lN 0) (lN 1) (Int32.toInt w) 0 1 (mW g o a F L A ++ X) (Int32.toInt_toInt64 _) (by decide) (by decide)) q4_88 kX9_in ⟨rfl, rfl⟩ ⟨Nat.le_of_ble_eq_true rfl, Nat.le_of_ble_eq_true rfl⟩ rfl hl.1 rfl (Nat.le_of_ble_eq_true rfl) dX9_patience_36 ⟨Nat.le_of_ble_eq_true rfl, Nat.le_of_ble_eq_true rfl⟩) (fun r_16 w_17 H locs hw hB => ?_)
        obtain ⟨hr9, hw9⟩ := hw
        have hr9 := hr9.symm
        subst hr9
        have hw9 := hw9.symm
        subst hw9
        refine z_bt (b := (inZ 0 1 (Int32.toInt w))) (tgt := 49) hE dX9_patience_39 (by decide) (fun c_18 => ?_) (fun c_18 => ?_)
        · obtain ⟨kn, hkn, rfl⟩ := pIn_nI (hi := 99) c_3 (by omega)
          obtain ⟨pn, hpn, rfl⟩ := pIn_nI (hi := 99) c_8 (by omega)
          obtain ⟨an, han, rfl⟩ := pIn_nI (hi := 63) c_13 (by omega)
          refine lv_aload_n hE.x hE.b dX9_patience_49 rfl (lv_at hl 0 rfl) ?_
          refine lv_iload_n hE.x hE.b dX9_patience_50 rfl (lv_at hl 1 rfl) ?_
          refine lv_iload_n hE.x hE.b dX9_patience_51 rfl (lv_at hl 2 rfl) ?_
          refine lv_iload_n hE.x hE.b dX9_patience_52 rfl (lv_at hl 3 rfl) ?_
          refine lv_iconst (v := nI 0) hE.x hE.b dX9_patience_53 rfl ?_
          refine z_qi hB (z_cV hE hB (c_X9_givesIn l g o a F L A X C T kn pn an 0 hT (by omega) hC (by omega) (by omega) (by omega) (by omega) (by omega)) q4_239 kX9_givesIn ⟨rfl, rfl⟩ ⟨Nat.le_of_ble_eq_true rfl, Nat.le_of_ble_eq_true rfl⟩ 0 rfl rfl rfl hl.1 rfl (Nat.le_of_ble_eq_true rfl) dX9_patience_54 ⟨Nat.le_of_ble_eq_true rfl, Nat.le_of_ble_eq_true rfl⟩) (fun r_19 w_20 H locs hw hB => ?_)
          obtain ⟨F1_21, hr9, hw9, hf_22, hf_23⟩ := hw
          have hr9 := hr9.symm
          subst hr9
          have hw9 := hw9.symm
          subst hw9
          refine lv_istore (lv' := [(5, .int (oI (gD1 (giR (A 0) T C kn pn an 0)))), (0, .ref o), (1, .int (nI kn)), (2, .int (nI pn)), (3, .int (nI an)), (4, .int w)]) hE.x hE.b dX9_patience_57 hl (by decide) rfl (fun ls hl => ?_)
          refine lv_iload hE.x hE.b dX9_patience_59 (lv_at hl 5 rfl) ?_
          refine lv_if_ne (tgt := 69) hE.x hE.b dX9_patience_61 (by decide) (fun c_24 => ?_) (fun c_24 => ?_)
          · refine lv_aload_n hE.x hE.b dX9_patience_69 rfl (lv_at hl 1 rfl) ?_
            refine z_get (v := .int (F1_21 13)) hE hB inX9 0 rfl rfl 13 (by decide) q4_14 (fun _ h9 => h9) rfl dX9_patience_70 ?_
            exact z_iret (v := (F1_21 13)) (ws := mW g o a F1_21 L A ++ X) hE hB hr (⟨F1_21, by unfold patienceR patOK; simp only [c_3, c_8, c_13, c_18, Bool.and_true, Bool.true_and, if_true, rcl (show kn < 2 ^ 31 by omega), rcl (show pn < 2 ^ 31 by omega), rcl (show an < 2 ^ 31 by omega)]; rw [if_neg c_24]; exact hf_23, by unfold chk patOK; simp only [c_3, c_8, c_13, c_18, Bool.and_true, Bool.true_and, if_true], hf_22⟩) dX9_patience_73
          · refine lv_iload hE.x hE.b dX9_patience_64 (lv_at hl 0 rfl) ?_
            refine lv_goto (tgt := 73) hE.x hE.b dX9_patience_66 (by decide) ?_
            exact z_iret (v := (oI (gD1 (giR (A 0) T C kn pn an 0)))) (ws := mW g o a F1_21 L A ++ X) hE hB hr (⟨F1_21, by unfold patienceR patOK; simp only [c_3, c_8, c_13, c_18, Bool.and_true, Bool.true_and, if_true, rcl (show kn < 2 ^ 31 by omega), rcl (show pn < 2 ^ 31 by omega), rcl (show an < 2 ^ 31 by omega)]; rw [if_pos c_24], by unfold chk patOK; simp only [c_3, c_8, c_13, c_18, Bool.and_true, Bool.true_and, if_true], hf_22⟩) dX9_patience_73
        · refine lv_aload_n hE.x hE.b dX9_patience_42 rfl (lv_at hl 0 rfl) ?_
          refine lv_bipush (v := (-2)) hE.x hE.b dX9_patience_43 rfl ?_
          refine z_qi hB (z_cV hE hB (c_X9_bad l g o a F L A X (-2)) q4_91 kX9_bad ⟨rfl, rfl⟩ ⟨Nat.le_of_ble_eq_true rfl, Nat.le_of_ble_eq_true rfl⟩ 0 rfl rfl rfl hl.1 rfl (Nat.le_of_ble_eq_true rfl) dX9_patience_45 ⟨Nat.le_of_ble_eq_true rfl, Nat.le_of_ble_eq_true rfl⟩) (fun r_25 w_26 H locs hw hB => ?_)
          obtain ⟨hr9, hw9⟩ := hw
          have hr9 := hr9.symm
          subst hr9
          have hw9 := hw9.symm
          subst hw9
          exact z_iret (v := (-2)) (ws := mW g o a F L (bump 0 A) ++ X) hE hB hr (⟨F, by unfold patienceR patOK; simp only [c_3, c_8, c_13, c_18, Bool.and_false, Bool.false_and, Bool.false_eq_true, if_false, Bool.and_true, Bool.true_and], by unfold chk patOK; simp only [c_3, c_8, c_13, c_18, Bool.and_false, Bool.false_and, Bool.false_eq_true, if_false, Bool.and_true, Bool.true_and], rfl⟩) dX9_patience_48

set_option maxHeartbeats 4000000 in
set_option maxRecDepth 100000 in
theorem c_X9_orNever (l : Launch) (g : zG) (q : Int32) (X : va_W)  : Met l yX9_orNever (Cond.code yX9_orNever cX9_orNever 1 (some .int) :: TBL) { frames := 0, cells := 0, slots := 0, locals := 0 } (zPc [.int q] g (X)) (zQi g (fun r ws => r = (orNv q) ∧ ws = X)) 0 0 (zA (gz g)) := by
  refine z_start (by decide +kernel) rfl (Nat.le_of_ble_eq_true rfl) ?_
  intro p e s m args below meth c ls hE hr hnm hB hl
  have hl : lv_has ls 1 [(0, .int q)] := hl
  revert hB
  generalize s.heap = H
  generalize ([] : List Loc) = locs
  intro hB
  refine lv_iload_n hE.x hE.b dX9_orNever_0 rfl (lv_at hl 0 rfl) ?_
  refine lv_iconst (v := (-1)) hE.x hE.b dX9_orNever_1 rfl ?_
  refine lv_icmp_ne (tgt := 10) hE.x hE.b dX9_orNever_2 (by decide) (fun c_1 => ?_) (fun c_1 => ?_)
  · refine lv_iload_n hE.x hE.b dX9_orNever_10 rfl (lv_at hl 0 rfl) ?_
    exact z_iret (v := q) (ws := X) hE hB hr (⟨by unfold orNv; rw [if_neg c_1], rfl⟩) dX9_orNever_11
  · refine lv_bipush (v := (nI 60)) hE.x hE.b dX9_orNever_5 rfl ?_
    refine lv_goto (tgt := 11) hE.x hE.b dX9_orNever_7 (by decide) ?_
    exact z_iret (v := (nI 60)) (ws := X) hE hB hr (⟨by unfold orNv; rw [if_pos c_1], rfl⟩) dX9_orNever_11

set_option maxHeartbeats 4000000 in
set_option maxRecDepth 100000 in
theorem c_X9_concede (l : Launch) (g : zG) (o : Nat) (a : Nat → Nat) (F : Nat → Int32) (L : Nat → Int64) (A : Nat → Nat → Int32) (X : va_W) (T : Nat) (C : Nat) (V : Nat) (U : Nat) (z : Int32) (k : Int32) (q : Int32) (ac : Int32) (hn : nOK (A 0) T C V U) : Met l yX9_concede (Cond.code yX9_concede cX9_concede 5 (some .int) :: TBL) { frames := 8, cells := 0, slots := 0, locals := 209 } (zPc [.ref o, .int z, .int k, .int q, .int ac] g (mW g o a F L A ++ X)) (zQi g (fun r ws => ∃ (F1 : Nat → Int32), r = (concedeR (A 0) T C z k q ac) ∧ ws = mW g o a F1 L (chk (concedeOK C z k q ac) A) ++ X ∧ F1 16 = F 16)) 0 0 (zA (gz g)) := by
  refine z_start (by decide +kernel) rfl (Nat.le_of_ble_eq_true rfl) ?_
  intro p e s m args below meth c ls hE hr hnm hB hl
  have hl : lv_has ls 5 [(0, .ref o), (1, .int z), (2, .int k), (3, .int q), (4, .int ac)] := hl
  revert hB
  generalize s.heap = H
  generalize ([] : List Loc) = locs
  intro hB
  have hT := hn.T
  have hT6 := hn.T6
  have hC := hn.C
  have hC8 := hn.C8
  have hV := hn.V
  have hV8 := hn.V8
  have hU := hn.U
  have hU8 := hn.U8
  have h16 : F 16 = F 16 := rfl
  refine lv_aload_n hE.x hE.b dX9_concede_0 rfl (lv_at hl 0 rfl) ?_
  refine lv_iload_n hE.x hE.b dX9_concede_1 rfl (lv_at hl 1 rfl) ?_
  refine z_qi hB (z_cV hE hB (c_X9_isClause l g o a F L A X C z hC (by omega)) q4_138 kX9_isClause ⟨rfl, rfl⟩ ⟨Nat.le_of_ble_eq_true rfl, Nat.le_of_ble_eq_true rfl⟩ 0 rfl rfl rfl hl.1 rfl (Nat.le_of_ble_eq_true rfl) dX9_concede_2 ⟨Nat.le_of_ble_eq_true rfl, Nat.le_of_ble_eq_true rfl⟩) (fun r_1 w_2 H locs hw hB => ?_)
  obtain ⟨hr9, hw9⟩ := hw
  have hr9 := hr9.symm
  subst hr9
  have hw9 := hw9.symm
  subst hw9
  refine z_bf (b := (pTown C z)) (tgt := 40) hE dX9_concede_5 (by decide) (fun c_3 => ?_) (fun c_3 => ?_)
  · refine lv_aload_n hE.x hE.b dX9_concede_40 rfl (lv_at hl 0 rfl) ?_
    refine lv_bipush (v := (-100)) hE.x hE.b dX9_concede_41 rfl ?_
    refine z_qi hB (z_cV hE hB (c_X9_bad l g o a F L A X (-100)) q4_91 kX9_bad ⟨rfl, rfl⟩ ⟨Nat.le_of_ble_eq_true rfl, Nat.le_of_ble_eq_true rfl⟩ 0 rfl rfl rfl hl.1 rfl (Nat.le_of_ble_eq_true rfl) dX9_concede_43 ⟨Nat.le_of_ble_eq_true rfl, Nat.le_of_ble_eq_true rfl⟩) (fun r_4 w_5 H locs hw hB => ?_)
    obtain ⟨hr9, hw9⟩ := hw
    have hr9 := hr9.symm
    subst hr9
    have hw9 := hw9.symm
    subst hw9
    exact z_iret (v := (-100)) (ws := mW g o a F L (bump 0 A) ++ X) hE hB hr (⟨F, by unfold concedeR concedeOK patOK; simp only [c_3, Bool.and_false, Bool.false_and, Bool.false_eq_true, if_false, Bool.and_true, Bool.true_and], by unfold chk concedeOK patOK; simp only [c_3, Bool.and_false, Bool.false_and, Bool.false_eq_true, if_false, Bool.and_true, Bool.true_and], rfl⟩) dX9_concede_46
  · refine lv_iload_n hE.x hE.b dX9_concede_8 rfl (lv_at hl 2 rfl) ?_
    refine lv_i2l hE.x hE.b dX9_concede_9 rfl ?_
    refine lv_lconst (v := lN 0) hE.x hE.b dX9_concede_10 rfl ?_
    refine lv_ldc2 (v := lN 99) hE.x hE.b hE.o (hE.t _ q4_238) dX9_concede_11 ?_
    refine z_qi hB (z_cS hE hB (c_X9_in l g (Int32.toInt64 k) (lN 0) (lN 99) (Int32.toInt k) 0 99 (mW g o a F L A ++ X) (Int32.toInt_toInt64 _) (by decide) (by decide)) q4_88 kX9_in ⟨rfl, rfl⟩ ⟨Nat.le_of_ble_eq_true rfl, Nat.le_of_ble_eq_true rfl⟩ rfl hl.1 rfl (Nat.le_of_ble_eq_true rfl) dX9_concede_14 ⟨Nat.le_of_ble_eq_true rfl, Nat.le_of_ble_eq_true rfl⟩) (fun r_6 w_7 H locs hw hB => ?_)
    obtain ⟨hr9, hw9⟩ := hw
    have hr9 := hr9.symm
    subst hr9
    have hw9 := hw9.symm
    subst hw9
    refine z_bf (b := (inZ 0 99 (Int32.toInt k))) (tgt := 40) hE dX9_concede_17 (by decide) (fun c_8 => ?_) (fun c_8 => ?_)
    · refine lv_aload_n hE.x hE.b dX9_concede_40 rfl (lv_at hl 0 rfl) ?_
      refine lv_bipush (v := (-100)) hE.x hE.b dX9_concede_41 rfl ?_
      refine z_qi hB (z_cV hE hB (c_X9_bad l g o a F L A X (-100)) q4_91 kX9_bad ⟨rfl, rfl⟩ ⟨Nat.le_of_ble_eq_true rfl, Nat.le_of_ble_eq_true rfl⟩ 0 rfl rfl rfl hl.1 rfl (Nat.le_of_ble_eq_true rfl) dX9_concede_43 ⟨Nat.le_of_ble_eq_true rfl, Nat.le_of_ble_eq_true rfl⟩) (fun r_9 w_10 H locs hw hB => ?_)
      obtain ⟨hr9, hw9⟩ := hw
      have hr9 := hr9.symm
      subst hr9
      have hw9 := hw9.symm
      subst hw9
      exact z_iret (v := (-100)) (ws := mW g o a F L (bump 0 A) ++ X) hE hB hr (⟨F, by unfold concedeR concedeOK patOK; simp only [c_3, c_8, Bool.and_false, Bool.false_and, Bool.false_eq_true, if_false, Bool.and_true, Bool.true_and], by unfold chk concedeOK patOK; simp only [c_3, c_8, Bool.and_false, Bool.false_and, Bool.false_eq_true, if_false, Bool.and_true, Bool.true_and], rfl⟩) dX9_concede_46
    · refine lv_iload_n hE.x hE.b dX9_concede_20 rfl (lv_at hl 3 rfl) ?_
      refine lv_i2l hE.x hE.b dX9_concede_21 rfl ?_
      refine lv_lconst (v := lN 0) hE.x hE.b dX9_concede_22 rfl ?_
      refine lv_ldc2 (v := lN 99) hE.x hE.b hE.o (hE.t _ q4_238) dX9_concede_23 ?_
      refine z_qi hB (z_cS hE hB (c_X9_in l g (Int32.toInt64 q) (lN 0) (lN 99) (Int32.toInt q) 0 99 (mW g o a F L A ++ X) (Int32.toInt_toInt64 _) (by decide) (by decide)) q4_88 kX9_in ⟨rfl, rfl⟩ ⟨Nat.le_of_ble_eq_true rfl, Nat.le_of_ble_eq_true rfl⟩ rfl hl.1 rfl (Nat.le_of_ble_eq_true rfl) dX9_concede_26 ⟨Nat.le_of_ble_eq_true rfl, Nat.le_of_ble_eq_true rfl⟩) (fun r_11 w_12 H locs hw hB => ?_)
      obtain ⟨hr9, hw9⟩ := hw
      have hr9 := hr9.symm
      subst hr9
      have hw9 := hw9.symm
      subst hw9
      refine z_bf (b := (inZ 0 99 (Int32.toInt q))) (tgt := 40) hE dX9_concede_29 (by decide) (fun c_13 => ?_) (fun c_13 => ?_)
      · refine lv_aload_n hE.x hE.b dX9_concede_40 rfl (lv_at hl 0 rfl) ?_
        refine lv_bipush (v := (-100)) hE.x hE.b dX9_concede_41 rfl ?_
        refine z_qi hB (z_cV hE hB (c_X9_bad l g o a F L A X (-100)) q4_91 kX9_bad ⟨rfl, rfl⟩ ⟨Nat.le_of_ble_eq_true rfl, Nat.le_of_ble_eq_true rfl⟩ 0 rfl rfl rfl hl.1 rfl (Nat.le_of_ble_eq_true rfl) dX9_concede_43 ⟨Nat.le_of_ble_eq_true rfl, Nat.le_of_ble_eq_true rfl⟩) (fun r_14 w_15 H locs hw hB => ?_)
        obtain ⟨hr9, hw9⟩ := hw
        have hr9 := hr9.symm
        subst hr9
        have hw9 := hw9.symm
        subst hw9
        exact z_iret (v := (-100)) (ws := mW g o a F L (bump 0 A) ++ X) hE hB hr (⟨F, by unfold concedeR concedeOK patOK; simp only [c_3, c_8, c_13, Bool.and_false, Bool.false_and, Bool.false_eq_true, if_false, Bool.and_true, Bool.true_and], by unfold chk concedeOK patOK; simp only [c_3, c_8, c_13, Bool.and_false, Bool.false_and, Bool.false_eq_true, if_false, Bool.and_true, Bool.true_and], rfl⟩) dX9_concede_46
      · refine lv_iload hE.x hE.b dX9_concede_32 (lv_at hl 4 rfl) ?_
        refine z_qi hB (z_cS hE hB (c_X9_areActs l g ac (mW g o a F L A ++ X)) q4_219 kX9_areActs ⟨rfl, rfl⟩ ⟨Nat.le_of_ble_eq_true rfl, Nat.le_of_ble_eq_true rfl⟩ rfl hl.1 rfl (Nat.le_of_ble_eq_true rfl) dX9_concede_34 ⟨Nat.le_of_ble_eq_true rfl, Nat.le_of_ble_eq_true rfl⟩) (fun r_16 w_17 H locs hw hB => ?_)
        obtain ⟨hr9, hw9⟩ := hw
        have hr9 := hr9.symm
        subst hr9
        have hw9 := hw9.symm
        subst hw9
        refine z_bt (b := (pIn 0 63 ac)) (tgt := 47) hE dX9_concede_37 (by decide) (fun c_18 => ?_) (fun c_18 => ?_)
        · obtain ⟨cn1, hcn1, rfl⟩ := pTown_nI c_3 (by omega)
          obtain ⟨kn, hkn, rfl⟩ := pIn_nI (hi := 99) c_8 (by omega)
          obtain ⟨pn, hpn, rfl⟩ := pIn_nI (hi := 99) c_13 (by omega)
          obtain ⟨an, han, rfl⟩ := pIn_nI (hi := 63) c_18 (by omega)
          refine lv_aload_n hE.x hE.b dX9_concede_47 rfl (lv_at hl 0 rfl) ?_
          have hpc1 : 2 ^ cn1 < 256 := Nat.pow_lt_pow_right (a := 2) (n := 8) (by omega) (by omega)
          refine lv_iload_n hE.x hE.b dX9_concede_48 rfl (lv_at hl 2 rfl) ?_
          refine lv_iload_n hE.x hE.b dX9_concede_49 rfl (lv_at hl 3 rfl) ?_
          refine lv_iload hE.x hE.b dX9_concede_50 (lv_at hl 4 rfl) ?_
          refine lv_iconst (v := nI 1) hE.x hE.b dX9_concede_52 rfl ?_
          refine lv_iload_n hE.x hE.b dX9_concede_53 rfl (lv_at hl 1 rfl) ?_
          refine lv_ishl hE.x hE.b dX9_concede_54 ?_
          refine z_top (y := (nI (2 ^ cn1))) (shl_8 cn1 (by omega)) ?_
          refine z_qi hB (z_cV hE hB (c_X9_givesIn l g o a F L A X C T kn pn an (2 ^ cn1) hT (by omega) hC (by omega) (by omega) (by omega) (by omega) (by omega)) q4_239 kX9_givesIn ⟨rfl, rfl⟩ ⟨Nat.le_of_ble_eq_true rfl, Nat.le_of_ble_eq_true rfl⟩ 0 rfl rfl rfl hl.1 rfl (Nat.le_of_ble_eq_true rfl) dX9_concede_55 ⟨Nat.le_of_ble_eq_true rfl, Nat.le_of_ble_eq_true rfl⟩) (fun r_19 w_20 H locs hw hB => ?_)
          obtain ⟨F1_21, hr9, hw9, hf_22, hf_23⟩ := hw
          have hr9 := hr9.symm
          subst hr9
          have hw9 := hw9.symm
          subst hw9
          have h16 := hf_22.trans h16
          refine z_qi hB (z_cS hE hB (c_X9_orNever l g (oI (gD1 (giR (A 0) T C kn pn an (2 ^ cn1)))) (mW g o a F1_21 L A ++ X)) q5_11 kX9_orNever ⟨rfl, rfl⟩ ⟨Nat.le_of_ble_eq_true rfl, Nat.le_of_ble_eq_true rfl⟩ rfl hl.1 rfl (Nat.le_of_ble_eq_true rfl) dX9_concede_58 ⟨Nat.le_of_ble_eq_true rfl, Nat.le_of_ble_eq_true rfl⟩) (fun r_24 w_25 H locs hw hB => ?_)
          obtain ⟨hr9, hw9⟩ := hw
          have hr9 := hr9.symm
          subst hr9
          have hw9 := hw9.symm
          subst hw9
          refine z_top (y := (nI (gE (giR (A 0) T C kn pn an (2 ^ cn1))))) orNv_g ?_
          refine lv_aload_n hE.x hE.b dX9_concede_61 rfl (lv_at hl 0 rfl) ?_
          refine lv_iload_n hE.x hE.b dX9_concede_62 rfl (lv_at hl 2 rfl) ?_
          refine lv_iload_n hE.x hE.b dX9_concede_63 rfl (lv_at hl 3 rfl) ?_
          refine lv_iload hE.x hE.b dX9_concede_64 (lv_at hl 4 rfl) ?_
          refine lv_iconst (v := nI 0) hE.x hE.b dX9_concede_66 rfl ?_
          refine z_qi hB (z_cV hE hB (c_X9_givesIn l g o a F1_21 L A X C T kn pn an 0 hT (by omega) hC (by omega) (by omega) (by omega) (by omega) (by omega)) q4_239 kX9_givesIn ⟨rfl, rfl⟩ ⟨Nat.le_of_ble_eq_true rfl, Nat.le_of_ble_eq_true rfl⟩ 0 rfl rfl rfl hl.1 rfl (Nat.le_of_ble_eq_true rfl) dX9_concede_67 ⟨Nat.le_of_ble_eq_true rfl, Nat.le_of_ble_eq_true rfl⟩) (fun r_26 w_27 H locs hw hB => ?_)
          obtain ⟨F1_28, hr9, hw9, hf_29, hf_30⟩ := hw
          have hr9 := hr9.symm
          subst hr9
          have hw9 := hw9.symm
          subst hw9
          have h16 := hf_29.trans h16
          refine z_qi hB (z_cS hE hB (c_X9_orNever l g (oI (gD1 (giR (A 0) T C kn pn an 0))) (mW g o a F1_28 L A ++ X)) q5_11 kX9_orNever ⟨rfl, rfl⟩ ⟨Nat.le_of_ble_eq_true rfl, Nat.le_of_ble_eq_true rfl⟩ rfl hl.1 rfl (Nat.le_of_ble_eq_true rfl) dX9_concede_70 ⟨Nat.le_of_ble_eq_true rfl, Nat.le_of_ble_eq_true rfl⟩) (fun r_31 w_32 H locs hw hB => ?_)
          obtain ⟨hr9, hw9⟩ := hw
          have hr9 := hr9.symm
          subst hr9
          have hw9 := hw9.symm
          subst hw9
          refine z_top (y := (nI (gE (giR (A 0) T C kn pn an 0)))) orNv_g ?_
          refine lv_isub hE.x hE.b dX9_concede_73 ?_
          exact z_iret (v := ((nI (gE (giR (A 0) T C kn pn an (2 ^ cn1)))) - (nI (gE (giR (A 0) T C kn pn an 0))))) (ws := mW g o a F1_28 L A ++ X) hE hB hr (⟨F1_28, by unfold concedeR concedeOK patOK; simp only [c_3, c_8, c_13, c_18, Bool.and_true, Bool.true_and, if_true, rcl (show kn < 2 ^ 31 by omega), rcl (show pn < 2 ^ 31 by omega), rcl (show an < 2 ^ 31 by omega), rcl (show cn1 < 2 ^ 31 by omega)], by unfold chk concedeOK patOK; simp only [c_3, c_8, c_13, c_18, Bool.and_true, Bool.true_and, if_true], h16⟩) dX9_concede_74
        · refine lv_aload_n hE.x hE.b dX9_concede_40 rfl (lv_at hl 0 rfl) ?_
          refine lv_bipush (v := (-100)) hE.x hE.b dX9_concede_41 rfl ?_
          refine z_qi hB (z_cV hE hB (c_X9_bad l g o a F L A X (-100)) q4_91 kX9_bad ⟨rfl, rfl⟩ ⟨Nat.le_of_ble_eq_true rfl, Nat.le_of_ble_eq_true rfl⟩ 0 rfl rfl rfl hl.1 rfl (Nat.le_of_ble_eq_true rfl) dX9_concede_43 ⟨Nat.le_of_ble_eq_true rfl, Nat.le_of_ble_eq_true rfl⟩) (fun r_33 w_34 H locs hw hB => ?_)
          obtain ⟨hr9, hw9⟩ := hw
          have hr9 := hr9.symm
          subst hr9
          have hw9 := hw9.symm
          subst hw9
          exact z_iret (v := (-100)) (ws := mW g o a F L (bump 0 A) ++ X) hE hB hr (⟨F, by unfold concedeR concedeOK patOK; simp only [c_3, c_8, c_13, c_18, Bool.and_false, Bool.false_and, Bool.false_eq_true, if_false, Bool.and_true, Bool.true_and], by unfold chk concedeOK patOK; simp only [c_3, c_8, c_13, c_18, Bool.and_false, Bool.false_and, Bool.false_eq_true, if_false, Bool.and_true, Bool.true_and], rfl⟩) dX9_concede_46

set_option maxHeartbeats 4000000 in
set_option maxRecDepth 100000 in
theorem c_X9_presses (l : Launch) (g : zG) (o : Nat) (a : Nat → Nat) (F : Nat → Int32) (L : Nat → Int64) (A : Nat → Nat → Int32) (X : va_W) (T : Nat) (C : Nat) (V : Nat) (U : Nat) (ac : Int32) (w : Int32) (hn : nOK (A 0) T C V U) : Met l yX9_presses (Cond.code yX9_presses cX9_presses 8 (some .int) :: TBL) { frames := 7, cells := 0, slots := 0, locals := 180 } (zPc [.ref o, .int ac, .int w] g (mW g o a F L A ++ X)) (zQi g (fun r ws => ∃ (F1 : Nat → Int32), r = (pressesR (A 0) T C ac w) ∧ ws = mW g o a F1 L (chk (pIn 0 63 ac && pIn 0 1 w) A) ++ X ∧ F1 16 = F 16)) 0 0 (zA (gz g)) := by
  refine z_start (by decide +kernel) rfl (Nat.le_of_ble_eq_true rfl) ?_
  intro p e s m args below meth c ls hE hr hnm hB hl
  have hl : lv_has ls 8 [(0, .ref o), (1, .int ac), (2, .int w)] := hl
  revert hB
  generalize s.heap = H
  generalize ([] : List Loc) = locs
  intro hB
  have hT := hn.T
  have hT6 := hn.T6
  have hC := hn.C
  have hC8 := hn.C8
  have hV := hn.V
  have hV8 := hn.V8
  have hU := hn.U
  have hU8 := hn.U8
  have h16 : F 16 = F 16 := rfl
  refine lv_iload_n hE.x hE.b dX9_presses_0 rfl (lv_at hl 1 rfl) ?_
  refine z_qi hB (z_cS hE hB (c_X9_areActs l g ac (mW g o a F L A ++ X)) q4_219 kX9_areActs ⟨rfl, rfl⟩ ⟨Nat.le_of_ble_eq_true rfl, Nat.le_of_ble_eq_true rfl⟩ rfl hl.1 rfl (Nat.le_of_ble_eq_true rfl) dX9_presses_1 ⟨Nat.le_of_ble_eq_true rfl, Nat.le_of_ble_eq_true rfl⟩) (fun r_1 w_2 H locs hw hB => ?_)
  obtain ⟨hr9, hw9⟩ := hw
  have hr9 := hr9.symm
  subst hr9
  have hw9 := hw9.symm
  subst hw9
  refine z_bf (b := (pIn 0 63 ac)) (tgt := 17) hE dX9_presses_4 (by decide) (fun c_3 => ?_) (fun c_3 => ?_)
  · refine lv_aload_n hE.x hE.b dX9_presses_17 rfl (lv_at hl 0 rfl) ?_
    refine lv_bipush (v := (-2)) hE.x hE.b dX9_presses_18 rfl ?_
    refine z_qi hB (z_cV hE hB (c_X9_bad l g o a F L A X (-2)) q4_91 kX9_bad ⟨rfl, rfl⟩ ⟨Nat.le_of_ble_eq_true rfl, Nat.le_of_ble_eq_true rfl⟩ 0 rfl rfl rfl hl.1 rfl (Nat.le_of_ble_eq_true rfl) dX9_presses_20 ⟨Nat.le_of_ble_eq_true rfl, Nat.le_of_ble_eq_true rfl⟩) (fun r_4 w_5 H locs hw hB => ?_)
    obtain ⟨hr9, hw9⟩ := hw
    have hr9 := hr9.symm
    subst hr9
    have hw9 := hw9.symm
    subst hw9
    exact z_iret (v := (-2)) (ws := mW g o a F L (bump 0 A) ++ X) hE hB hr (⟨F, by unfold pressesR ; simp only [c_3, Bool.and_false, Bool.false_and, Bool.false_eq_true, if_false, Bool.and_true, Bool.true_and], by unfold chk ; simp only [c_3, Bool.and_false, Bool.false_and, Bool.false_eq_true, if_false, Bool.and_true, Bool.true_and], rfl⟩) dX9_presses_23
  · refine lv_iload_n hE.x hE.b dX9_presses_7 rfl (lv_at hl 2 rfl) ?_
    refine lv_i2l hE.x hE.b dX9_presses_8 rfl ?_
    refine lv_lconst (v := lN 0) hE.x hE.b dX9_presses_9 rfl ?_
    refine lv_lconst (v := lN 1) hE.x hE.b dX9_presses_10 rfl ?_
    refine z_qi hB (z_cS hE hB (c_X9_in l g (Int32.toInt64 w) (lN 0) (lN 1) (Int32.toInt w) 0 1 (mW g o a F L A ++ X) (Int32.toInt_toInt64 _) (by decide) (by decide)) q4_88 kX9_in ⟨rfl, rfl⟩ ⟨Nat.le_of_ble_eq_true rfl, Nat.le_of_ble_eq_true rfl⟩ rfl hl.1 rfl (Nat.le_of_ble_eq_true rfl) dX9_presses_11 ⟨Nat.le_of_ble_eq_true rfl, Nat.le_of_ble_eq_true rfl⟩) (fun r_6 w_7 H locs hw hB => ?_)
    obtain ⟨hr9, hw9⟩ := hw
    have hr9 := hr9.symm
    subst hr9
    have hw9 := hw9.symm
    subst hw9
    refine z_bt (b := (inZ 0 1 (Int32.toInt w))) (tgt := 24) hE dX9_presses_14 (by decide) (fun c_8 => ?_) (fun c_8 => ?_)
    · obtain ⟨an, han, rfl⟩ := pIn_nI (hi := 63) c_3 (by omega)
      refine lv_iconst (v := (-1)) hE.x hE.b dX9_presses_24 rfl ?_
      refine lv_istore_n (lv' := [(3, .int (-1)), (0, .ref o), (1, .int (nI an)), (2, .int w)]) hE.x hE.b dX9_presses_25 rfl hl (by decide) rfl (fun ls hl => ?_)
      refine lv_iconst (v := (-1)) hE.x hE.b dX9_presses_26 rfl ?_
      refine lv_istore (lv' := [(4, .int (-1)), (3, .int (-1)), (0, .ref o), (1, .int (nI an)), (2, .int w)]) hE.x hE.b dX9_presses_27 hl (by decide) rfl (fun ls hl => ?_)
      refine lv_iconst (v := nI 0) hE.x hE.b dX9_presses_29 rfl ?_
      refine lv_istore (lv' := [(5, .int (nI 0)), (4, .int (-1)), (3, .int (-1)), (0, .ref o), (1, .int (nI an)), (2, .int w)]) hE.x hE.b dX9_presses_30 hl (by decide) rfl (fun ls hl => ?_)
      have k32 : ∀ (fu : Nat) (x : Option (Nat × Nat)) (bI9 : Int32) (mI : Int32) (t : Nat) (F1 : Nat → Int32) (H : Heap) (locs : List Loc) (ls : Array Slot), T - t < fu → (t ≤ T) → (F1 16 = F 16) → (x = prs (prsC (A 0) C an) t) → (bI9 = oI (x.map Prod.fst)) → (mI = oI (x.map Prod.snd)) → (mI.toInt ≤ 60 ∧ -1 ≤ mI.toInt) → zB g s (mW g o a F1 L A ++ X) H locs → lv_has ls 8 [(5, .int (nI t)), (4, .int mI), (3, .int bI9), (0, .ref o), (1, .int (nI an)), (2, .int w)] → W p l e { frames := 7, cells := 0, slots := 0, locals := 180 } s m args below meth c H locs 0 0 (MQ below (zQi g (fun r ws => ∃ (F1 : Nat → Int32), r = (pressesR (A 0) T C (nI an) w) ∧ ws = mW g o a F1 L (chk (pIn 0 63 (nI an) && pIn 0 1 w) A) ++ X ∧ F1 16 = F 16)) args s 0 0 (zA (gz g))) (F0 m 32 ls []) := by
        intro fu
        induction fu with
        | zero => intro x bI9 mI t F1 H locs ls hfu ht h16 hx hb hm hmb hB hl; exact absurd hfu (Nat.not_lt_zero _)
        | succ fu ih32 =>
          intro x bI9 mI t F1 H locs ls hfu ht h16 hx hb hm hmb hB hl
          refine lv_iload hE.x hE.b dX9_presses_32 (lv_at hl 0 rfl) ?_
          refine lv_aload_n hE.x hE.b dX9_presses_34 rfl (lv_at hl 3 rfl) ?_
          refine z_qi hB (z_cV hE hB (c_X9_towns l g o a F1 L A X T hT) q4_76 kX9_towns ⟨rfl, rfl⟩ ⟨Nat.le_of_ble_eq_true rfl, Nat.le_of_ble_eq_true rfl⟩ 0 rfl rfl rfl hl.1 rfl (Nat.le_of_ble_eq_true rfl) dX9_presses_35 ⟨Nat.le_of_ble_eq_true rfl, Nat.le_of_ble_eq_true rfl⟩) (fun r_9 w_10 H locs hw hB => ?_)
          obtain ⟨hr9, hw9⟩ := hw
          have hr9 := hr9.symm
          subst hr9
          have hw9 := hw9.symm
          subst hw9
          refine z_ge (tgt := 119) (X := ((t : Nat) : Int)) (Y := ((T : Nat) : Int)) hE dX9_presses_38 (by decide) (nI_toInt (n := t) (by omega)) (nI_toInt (n := T) (by omega)) (fun c_11 => ?_) (fun c_11 => ?_)
          · refine lv_iload_n hE.x hE.b dX9_presses_119 rfl (lv_at hl 5 rfl) ?_
            refine lv_if_ne (tgt := 127) hE.x hE.b dX9_presses_120 (by decide) (fun c_12 => ?_) (fun c_12 => ?_)
            · refine lv_iload_n hE.x hE.b dX9_presses_127 rfl (lv_at hl 2 rfl) ?_
              refine lv_iconst (v := (-1)) hE.x hE.b dX9_presses_128 rfl ?_
              refine lv_icmp_ne (tgt := 136) hE.x hE.b dX9_presses_129 (by decide) (fun c_13 => ?_) (fun c_13 => ?_)
              · refine lv_iload hE.x hE.b dX9_presses_136 (lv_at hl 1 rfl) ?_
                exact z_iret (v := mI) (ws := mW g o a F1 L A ++ X) hE hB hr (⟨F1, by rw [show t = T by omega] at hx; rw [pressesR_v (by simp only [c_3, c_8, Bool.and_true, Bool.true_and, if_true]), rcl (show an < 2 ^ 31 by omega), ← hx, prV_m c_12 (by rw [← hb]; exact c_13)]; exact hm, by unfold chk; simp only [c_3, c_8, Bool.and_true, Bool.true_and, if_true], h16⟩) dX9_presses_138
              · refine lv_iconst (v := nI 0) hE.x hE.b dX9_presses_132 rfl ?_
                refine lv_goto (tgt := 138) hE.x hE.b dX9_presses_133 (by decide) ?_
                exact z_iret (v := (nI 0)) (ws := mW g o a F1 L A ++ X) hE hB hr (⟨F1, by rw [show t = T by omega] at hx; rw [pressesR_v (by simp only [c_3, c_8, Bool.and_true, Bool.true_and, if_true]), rcl (show an < 2 ^ 31 by omega), ← hx, prV_n hx hT6 c_12 (by rw [← hb]; exact c_13)], by unfold chk; simp only [c_3, c_8, Bool.and_true, Bool.true_and, if_true], h16⟩) dX9_presses_138
            · refine lv_iload_n hE.x hE.b dX9_presses_123 rfl (lv_at hl 2 rfl) ?_
              refine lv_goto (tgt := 138) hE.x hE.b dX9_presses_124 (by decide) ?_
              exact z_iret (v := bI9) (ws := mW g o a F1 L A ++ X) hE hB hr (⟨F1, by rw [show t = T by omega] at hx; rw [pressesR_v (by simp only [c_3, c_8, Bool.and_true, Bool.true_and, if_true]), rcl (show an < 2 ^ 31 by omega), ← hx, prV_0 c_12]; exact hb, by unfold chk; simp only [c_3, c_8, Bool.and_true, Bool.true_and, if_true], h16⟩) dX9_presses_138
          · refine lv_iconst (v := nI 0) hE.x hE.b dX9_presses_41 rfl ?_
            refine lv_istore (lv' := [(6, .int (nI 0)), (5, .int (nI t)), (4, .int mI), (3, .int bI9), (0, .ref o), (1, .int (nI an)), (2, .int w)]) hE.x hE.b dX9_presses_42 hl (by decide) rfl (fun ls hl => ?_)
            refine lv_iconst (v := nI 0) hE.x hE.b dX9_presses_44 rfl ?_
            refine lv_istore (lv' := [(7, .int (nI 0)), (6, .int (nI 0)), (5, .int (nI t)), (4, .int mI), (3, .int bI9), (0, .ref o), (1, .int (nI an)), (2, .int w)]) hE.x hE.b dX9_presses_45 hl (by decide) rfl (fun ls hl => ?_)
            have k47 : ∀ (fu : Nat) (ct : Nat) (d : Nat) (F1 : Nat → Int32) (H : Heap) (locs : List Loc) (ls : Array Slot), 60 - d < fu → (d ≤ 60) → (F1 16 = F 16) → (ct = cn (fun d => fbB (acAl (A 0) C (nI d) 0) an t) d) → zB g s (mW g o a F1 L A ++ X) H locs → lv_has ls 8 [(7, .int (nI d)), (6, .int (nI ct)), (5, .int (nI t)), (4, .int mI), (3, .int bI9), (0, .ref o), (1, .int (nI an)), (2, .int w)] → W p l e { frames := 7, cells := 0, slots := 0, locals := 180 } s m args below meth c H locs 0 0 (MQ below (zQi g (fun r ws => ∃ (F1 : Nat → Int32), r = (pressesR (A 0) T C (nI an) w) ∧ ws = mW g o a F1 L (chk (pIn 0 63 (nI an) && pIn 0 1 w) A) ++ X ∧ F1 16 = F 16)) args s 0 0 (zA (gz g))) (F0 m 47 ls []) := by
              intro fu
              induction fu with
              | zero => intro ct d F1 H locs ls hfu hd h16 hct hB hl; exact absurd hfu (Nat.not_lt_zero _)
              | succ fu ih47 =>
                intro ct d F1 H locs ls hfu hd h16 hct hB hl
                refine lv_iload hE.x hE.b dX9_presses_47 (lv_at hl 0 rfl) ?_
                refine lv_bipush (v := (nI 60)) hE.x hE.b dX9_presses_49 rfl ?_
                refine z_ge (tgt := 83) (X := ((d : Nat) : Int)) (Y := (60 : Int)) hE dX9_presses_51 (by decide) (nI_toInt (n := d) (by omega)) rfl (fun c_14 => ?_) (fun c_14 => ?_)
                · have hd60 : d = 60 := by omega
                  have hctE : ct = (prsC (A 0) C an) t := by rw [hct, hd60]; rfl
                  have hct60 : ct ≤ 60 := by rw [hct, hd60]; exact cn_le _ 60
                  refine lv_iload hE.x hE.b dX9_presses_83 (lv_at hl 1 rfl) ?_
                  refine lv_iload hE.x hE.b dX9_presses_85 (lv_at hl 3 rfl) ?_
                  refine z_le (tgt := 95) (X := ((ct : Nat) : Int)) (Y := mI.toInt) hE dX9_presses_87 (by decide) (nI_toInt (n := ct) (by omega)) rfl (fun c_15 => ?_) (fun c_15 => ?_)
                  · refine lv_iload_n hE.x hE.b dX9_presses_95 rfl (lv_at hl 4 rfl) ?_
                    refine lv_istore_n (lv' := [(3, .int bI9), (7, .int (nI d)), (6, .int (nI ct)), (5, .int (nI t)), (4, .int mI), (0, .ref o), (1, .int (nI an)), (2, .int w)]) hE.x hE.b dX9_presses_96 rfl hl (by decide) rfl (fun ls hl => ?_)
                    refine lv_iload hE.x hE.b dX9_presses_97 (lv_at hl 2 rfl) ?_
                    refine lv_iload hE.x hE.b dX9_presses_99 (lv_at hl 4 rfl) ?_
                    refine z_le (tgt := 109) (X := ((ct : Nat) : Int)) (Y := mI.toInt) hE dX9_presses_101 (by decide) (nI_toInt (n := ct) (by omega)) rfl (fun c_16 => ?_) (fun c_16 => ?_)
                    · refine lv_iload hE.x hE.b dX9_presses_109 (lv_at hl 4 rfl) ?_
                      refine lv_istore (lv' := [(4, .int mI), (3, .int bI9), (7, .int (nI d)), (6, .int (nI ct)), (5, .int (nI t)), (0, .ref o), (1, .int (nI an)), (2, .int w)]) hE.x hE.b dX9_presses_111 hl (by decide) rfl (fun ls hl => ?_)
                      refine lv_iinc (v := (nI (t + 1))) (lv' := [(5, .int (nI (t + 1))), (4, .int mI), (3, .int bI9), (7, .int (nI d)), (6, .int (nI ct)), (0, .ref o), (1, .int (nI an)), (2, .int w)]) hE.x hE.b dX9_presses_113 hl (k := 4) rfl (nI_add _ _) (by decide) rfl (fun ls hl => ?_)
                      refine lv_goto (tgt := 32) hE.x hE.b dX9_presses_116 (by decide) ?_
                      exact ih32 x bI9 mI (t + 1) F1 _ _ _ (by omega) (by omega) h16 ((prs_old hx hm hctE (fun _ => prsC_60) (by omega))) hb hm hmb hB (lv_sub hl [0, 1, 2, 5, 6, 7] rfl)
                    · · exact absurd c_16 (by omega)
                  · refine lv_iload hE.x hE.b dX9_presses_90 (lv_at hl 2 rfl) ?_
                    refine lv_goto (tgt := 96) hE.x hE.b dX9_presses_92 (by decide) ?_
                    refine lv_istore_n (lv' := [(3, .int (nI t)), (7, .int (nI d)), (6, .int (nI ct)), (5, .int (nI t)), (4, .int mI), (0, .ref o), (1, .int (nI an)), (2, .int w)]) hE.x hE.b dX9_presses_96 rfl hl (by decide) rfl (fun ls hl => ?_)
                    refine lv_iload hE.x hE.b dX9_presses_97 (lv_at hl 2 rfl) ?_
                    refine lv_iload hE.x hE.b dX9_presses_99 (lv_at hl 4 rfl) ?_
                    refine z_le (tgt := 109) (X := ((ct : Nat) : Int)) (Y := mI.toInt) hE dX9_presses_101 (by decide) (nI_toInt (n := ct) (by omega)) rfl (fun c_17 => ?_) (fun c_17 => ?_)
                    · · exact absurd c_17 (by omega)
                    · refine lv_iload hE.x hE.b dX9_presses_104 (lv_at hl 2 rfl) ?_
                      refine lv_goto (tgt := 111) hE.x hE.b dX9_presses_106 (by decide) ?_
                      refine lv_istore (lv' := [(4, .int (nI ct)), (3, .int (nI t)), (7, .int (nI d)), (6, .int (nI ct)), (5, .int (nI t)), (0, .ref o), (1, .int (nI an)), (2, .int w)]) hE.x hE.b dX9_presses_111 hl (by decide) rfl (fun ls hl => ?_)
                      refine lv_iinc (v := (nI (t + 1))) (lv' := [(5, .int (nI (t + 1))), (4, .int (nI ct)), (3, .int (nI t)), (7, .int (nI d)), (6, .int (nI ct)), (0, .ref o), (1, .int (nI an)), (2, .int w)]) hE.x hE.b dX9_presses_113 hl (k := 4) rfl (nI_add _ _) (by decide) rfl (fun ls hl => ?_)
                      refine lv_goto (tgt := 32) hE.x hE.b dX9_presses_116 (by decide) ?_
                      exact ih32 (some (t, (prsC (A 0) C an) t)) (nI t) (nI ct) (t + 1) F1 _ _ _ (by omega) (by omega) h16 ((prs_new hx hm hctE (fun _ => prsC_60) (by omega))) rfl (by rw [hctE]; rfl) (by rw [nI_toInt (show ct < 2 ^ 31 by omega)]; omega) hB (lv_sub hl [0, 1, 2, 5, 6, 7] rfl)
                · have hcl := cn_le (fun d => fbB (acAl (A 0) C (nI d) 0) an t) d
                  refine lv_iload hE.x hE.b dX9_presses_54 (lv_at hl 1 rfl) ?_
                  refine lv_aload_n hE.x hE.b dX9_presses_56 rfl (lv_at hl 5 rfl) ?_
                  refine lv_iload hE.x hE.b dX9_presses_57 (lv_at hl 2 rfl) ?_
                  refine lv_iload_n hE.x hE.b dX9_presses_59 rfl (lv_at hl 6 rfl) ?_
                  refine lv_iload hE.x hE.b dX9_presses_60 (lv_at hl 0 rfl) ?_
                  refine lv_iconst (v := nI 0) hE.x hE.b dX9_presses_62 rfl ?_
                  refine z_qi hB (z_cV hE hB (c_X9_forbidsSome l g o a F1 L A X C t an (nI d) 0 hC (by omega) (by omega) (by omega) (by omega)) q5_3 kX9_forbidsSome ⟨rfl, rfl⟩ ⟨Nat.le_of_ble_eq_true rfl, Nat.le_of_ble_eq_true rfl⟩ 0 rfl rfl rfl hl.1 rfl (Nat.le_of_ble_eq_true rfl) dX9_presses_63 ⟨Nat.le_of_ble_eq_true rfl, Nat.le_of_ble_eq_true rfl⟩) (fun r_18 w_19 H locs hw hB => ?_)
                  obtain ⟨F1_20, hr9, hw9, hf_21⟩ := hw
                  have hr9 := hr9.symm
                  subst hr9
                  have hw9 := hw9.symm
                  subst hw9
                  have h16 := hf_21.trans h16
                  refine z_bf (b := (fbB (acAl (A 0) C (nI d) 0) an t)) (tgt := 73) hE dX9_presses_66 (by decide) (fun c_22 => ?_) (fun c_22 => ?_)
                  · refine lv_iconst (v := nI 0) hE.x hE.b dX9_presses_73 rfl ?_
                    refine z_iaddN hE dX9_presses_74 ?_
                    refine lv_istore (lv' := [(6, .int (nI (ct + 0))), (7, .int (nI d)), (5, .int (nI t)), (4, .int mI), (3, .int bI9), (0, .ref o), (1, .int (nI an)), (2, .int w)]) hE.x hE.b dX9_presses_75 hl (by decide) rfl (fun ls hl => ?_)
                    refine lv_iinc (v := (nI (d + 1))) (lv' := [(7, .int (nI (d + 1))), (6, .int (nI (ct + 0))), (5, .int (nI t)), (4, .int mI), (3, .int bI9), (0, .ref o), (1, .int (nI an)), (2, .int w)]) hE.x hE.b dX9_presses_77 hl (k := 1) rfl (nI_add _ _) (by decide) rfl (fun ls hl => ?_)
                    refine lv_goto (tgt := 47) hE.x hE.b dX9_presses_80 (by decide) ?_
                    exact ih47 (ct + 0) (d + 1) F1_20 _ _ _ (by omega) (by omega) h16 (by rw [cn_f (P := (fun d => fbB (acAl (A 0) C (nI d) 0) an t)) c_22, hct]; rfl) hB hl
                  · refine lv_iconst (v := nI 1) hE.x hE.b dX9_presses_69 rfl ?_
                    refine lv_goto (tgt := 74) hE.x hE.b dX9_presses_70 (by decide) ?_
                    refine z_iaddN hE dX9_presses_74 ?_
                    refine lv_istore (lv' := [(6, .int (nI (ct + 1))), (7, .int (nI d)), (5, .int (nI t)), (4, .int mI), (3, .int bI9), (0, .ref o), (1, .int (nI an)), (2, .int w)]) hE.x hE.b dX9_presses_75 hl (by decide) rfl (fun ls hl => ?_)
                    refine lv_iinc (v := (nI (d + 1))) (lv' := [(7, .int (nI (d + 1))), (6, .int (nI (ct + 1))), (5, .int (nI t)), (4, .int mI), (3, .int bI9), (0, .ref o), (1, .int (nI an)), (2, .int w)]) hE.x hE.b dX9_presses_77 hl (k := 1) rfl (nI_add _ _) (by decide) rfl (fun ls hl => ?_)
                    refine lv_goto (tgt := 47) hE.x hE.b dX9_presses_80 (by decide) ?_
                    exact ih47 (ct + 1) (d + 1) F1_20 _ _ _ (by omega) (by omega) h16 (by rw [cn_t (P := (fun d => fbB (acAl (A 0) C (nI d) 0) an t)) c_22, hct]) hB hl
            exact k47 (60 - 0 + 1) 0 0 F1 _ _ _ (Nat.lt_succ_self _) (by omega) h16 rfl hB hl
      exact k32 (T - 0 + 1) none (-1) (-1) 0 F _ _ _ (Nat.lt_succ_self _) (by omega) h16 rfl rfl rfl (by decide) hB hl
    · refine lv_aload_n hE.x hE.b dX9_presses_17 rfl (lv_at hl 0 rfl) ?_
      refine lv_bipush (v := (-2)) hE.x hE.b dX9_presses_18 rfl ?_
      refine z_qi hB (z_cV hE hB (c_X9_bad l g o a F L A X (-2)) q4_91 kX9_bad ⟨rfl, rfl⟩ ⟨Nat.le_of_ble_eq_true rfl, Nat.le_of_ble_eq_true rfl⟩ 0 rfl rfl rfl hl.1 rfl (Nat.le_of_ble_eq_true rfl) dX9_presses_20 ⟨Nat.le_of_ble_eq_true rfl, Nat.le_of_ble_eq_true rfl⟩) (fun r_23 w_24 H locs hw hB => ?_)
      obtain ⟨hr9, hw9⟩ := hw
      have hr9 := hr9.symm
      subst hr9
      have hw9 := hw9.symm
      subst hw9
      exact z_iret (v := (-2)) (ws := mW g o a F L (bump 0 A) ++ X) hE hB hr (⟨F, by unfold pressesR ; simp only [c_3, c_8, Bool.and_false, Bool.false_and, Bool.false_eq_true, if_false, Bool.and_true, Bool.true_and], by unfold chk ; simp only [c_3, c_8, Bool.and_false, Bool.false_and, Bool.false_eq_true, if_false, Bool.and_true, Bool.true_and], rfl⟩) dX9_presses_23

set_option maxHeartbeats 4000000 in
set_option maxRecDepth 100000 in
theorem c_X9_leave (l : Launch) (g : zG) (o : Nat) (a : Nat → Nat) (F : Nat → Int32) (L : Nat → Int64) (A : Nat → Nat → Int32) (X : va_W) (T : Nat) (C : Nat) (V : Nat) (U : Nat) (tw : Int32) (ac : Int32) (dd : Int32) (dy : Int32) (sh : Int32) (hn : nOK (A 0) T C V U) : Met l yX9_leave (Cond.code yX9_leave cX9_leave 7 (some .int) :: TBL) { frames := 2, cells := 0, slots := 0, locals := 46 } (zPc [.ref o, .int tw, .int ac, .int dd, .int dy, .int sh] g (mW g o a F L A ++ X)) (zQi g (fun r ws => r = (leaveR T V tw ac dd dy sh) ∧ ws = mW g o a F L (leaveA A T V tw ac dd dy sh) ++ X)) 0 0 (zA (gz g)) := by
  refine z_start (by decide +kernel) rfl (Nat.le_of_ble_eq_true rfl) ?_
  intro p e s m args below meth c ls hE hr hnm hB hl
  have hl : lv_has ls 7 [(0, .ref o), (1, .int tw), (2, .int ac), (3, .int dd), (4, .int dy), (5, .int sh)] := hl
  revert hB
  generalize s.heap = H
  generalize ([] : List Loc) = locs
  intro hB
  have hT := hn.T
  have hT6 := hn.T6
  have hC := hn.C
  have hC8 := hn.C8
  have hV := hn.V
  have hV8 := hn.V8
  have hU := hn.U
  have hU8 := hn.U8
  refine lv_aload_n hE.x hE.b dX9_leave_0 rfl (lv_at hl 0 rfl) ?_
  refine lv_iload_n hE.x hE.b dX9_leave_1 rfl (lv_at hl 1 rfl) ?_
  refine z_qi hB (z_cV hE hB (c_X9_isTown l g o a F L A X T tw hT (by omega)) q4_106 kX9_isTown ⟨rfl, rfl⟩ ⟨Nat.le_of_ble_eq_true rfl, Nat.le_of_ble_eq_true rfl⟩ 0 rfl rfl rfl hl.1 rfl (Nat.le_of_ble_eq_true rfl) dX9_leave_2 ⟨Nat.le_of_ble_eq_true rfl, Nat.le_of_ble_eq_true rfl⟩) (fun r_1 w_2 H locs hw hB => ?_)
  obtain ⟨hr9, hw9⟩ := hw
  have hr9 := hr9.symm
  subst hr9
  have hw9 := hw9.symm
  subst hw9
  refine z_bf (b := (pTown T tw)) (tgt := 32) hE dX9_leave_5 (by decide) (fun c_3 => ?_) (fun c_3 => ?_)
  · refine lv_aload_n hE.x hE.b dX9_leave_32 rfl (lv_at hl 0 rfl) ?_
    refine lv_bipush (v := (-2)) hE.x hE.b dX9_leave_33 rfl ?_
    refine z_qi hB (z_cV hE hB (c_X9_bad l g o a F L A X (-2)) q4_91 kX9_bad ⟨rfl, rfl⟩ ⟨Nat.le_of_ble_eq_true rfl, Nat.le_of_ble_eq_true rfl⟩ 0 rfl rfl rfl hl.1 rfl (Nat.le_of_ble_eq_true rfl) dX9_leave_35 ⟨Nat.le_of_ble_eq_true rfl, Nat.le_of_ble_eq_true rfl⟩) (fun r_4 w_5 H locs hw hB => ?_)
    obtain ⟨hr9, hw9⟩ := hw
    have hr9 := hr9.symm
    subst hr9
    have hw9 := hw9.symm
    subst hw9
    exact z_iret (v := (-2)) (ws := mW g o a F L (bump 0 A) ++ X) hE hB hr (⟨by unfold leaveR askOK; simp only [c_3, Bool.and_false, Bool.false_and, Bool.false_eq_true, if_false, Bool.and_true, Bool.true_and], by unfold leaveA askOK; simp only [c_3, Bool.and_false, Bool.false_and, Bool.false_eq_true, if_false, Bool.and_true, Bool.true_and]⟩) dX9_leave_38
  · refine lv_iload_n hE.x hE.b dX9_leave_8 rfl (lv_at hl 2 rfl) ?_
    refine z_qi hB (z_cS hE hB (c_X9_isAct l g ac (mW g o a F L A ++ X)) q4_119 kX9_isAct ⟨rfl, rfl⟩ ⟨Nat.le_of_ble_eq_true rfl, Nat.le_of_ble_eq_true rfl⟩ rfl hl.1 rfl (Nat.le_of_ble_eq_true rfl) dX9_leave_9 ⟨Nat.le_of_ble_eq_true rfl, Nat.le_of_ble_eq_true rfl⟩) (fun r_6 w_7 H locs hw hB => ?_)
    obtain ⟨hr9, hw9⟩ := hw
    have hr9 := hr9.symm
    subst hr9
    have hw9 := hw9.symm
    subst hw9
    refine z_bf (b := (pIn 0 5 ac)) (tgt := 32) hE dX9_leave_12 (by decide) (fun c_8 => ?_) (fun c_8 => ?_)
    · refine lv_aload_n hE.x hE.b dX9_leave_32 rfl (lv_at hl 0 rfl) ?_
      refine lv_bipush (v := (-2)) hE.x hE.b dX9_leave_33 rfl ?_
      refine z_qi hB (z_cV hE hB (c_X9_bad l g o a F L A X (-2)) q4_91 kX9_bad ⟨rfl, rfl⟩ ⟨Nat.le_of_ble_eq_true rfl, Nat.le_of_ble_eq_true rfl⟩ 0 rfl rfl rfl hl.1 rfl (Nat.le_of_ble_eq_true rfl) dX9_leave_35 ⟨Nat.le_of_ble_eq_true rfl, Nat.le_of_ble_eq_true rfl⟩) (fun r_9 w_10 H locs hw hB => ?_)
      obtain ⟨hr9, hw9⟩ := hw
      have hr9 := hr9.symm
      subst hr9
      have hw9 := hw9.symm
      subst hw9
      exact z_iret (v := (-2)) (ws := mW g o a F L (bump 0 A) ++ X) hE hB hr (⟨by unfold leaveR askOK; simp only [c_3, c_8, Bool.and_false, Bool.false_and, Bool.false_eq_true, if_false, Bool.and_true, Bool.true_and], by unfold leaveA askOK; simp only [c_3, c_8, Bool.and_false, Bool.false_and, Bool.false_eq_true, if_false, Bool.and_true, Bool.true_and]⟩) dX9_leave_38
    · refine lv_iload_n hE.x hE.b dX9_leave_15 rfl (lv_at hl 3 rfl) ?_
      refine z_qi hB (z_cS hE hB (c_X9_isDay l g dd (mW g o a F L A ++ X)) q4_170 kX9_isDay ⟨rfl, rfl⟩ ⟨Nat.le_of_ble_eq_true rfl, Nat.le_of_ble_eq_true rfl⟩ rfl hl.1 rfl (Nat.le_of_ble_eq_true rfl) dX9_leave_16 ⟨Nat.le_of_ble_eq_true rfl, Nat.le_of_ble_eq_true rfl⟩) (fun r_11 w_12 H locs hw hB => ?_)
      obtain ⟨hr9, hw9⟩ := hw
      have hr9 := hr9.symm
      subst hr9
      have hw9 := hw9.symm
      subst hw9
      refine z_bf (b := (pIn 0 59 dd)) (tgt := 32) hE dX9_leave_19 (by decide) (fun c_13 => ?_) (fun c_13 => ?_)
      · refine lv_aload_n hE.x hE.b dX9_leave_32 rfl (lv_at hl 0 rfl) ?_
        refine lv_bipush (v := (-2)) hE.x hE.b dX9_leave_33 rfl ?_
        refine z_qi hB (z_cV hE hB (c_X9_bad l g o a F L A X (-2)) q4_91 kX9_bad ⟨rfl, rfl⟩ ⟨Nat.le_of_ble_eq_true rfl, Nat.le_of_ble_eq_true rfl⟩ 0 rfl rfl rfl hl.1 rfl (Nat.le_of_ble_eq_true rfl) dX9_leave_35 ⟨Nat.le_of_ble_eq_true rfl, Nat.le_of_ble_eq_true rfl⟩) (fun r_14 w_15 H locs hw hB => ?_)
        obtain ⟨hr9, hw9⟩ := hw
        have hr9 := hr9.symm
        subst hr9
        have hw9 := hw9.symm
        subst hw9
        exact z_iret (v := (-2)) (ws := mW g o a F L (bump 0 A) ++ X) hE hB hr (⟨by unfold leaveR askOK; simp only [c_3, c_8, c_13, Bool.and_false, Bool.false_and, Bool.false_eq_true, if_false, Bool.and_true, Bool.true_and], by unfold leaveA askOK; simp only [c_3, c_8, c_13, Bool.and_false, Bool.false_and, Bool.false_eq_true, if_false, Bool.and_true, Bool.true_and]⟩) dX9_leave_38
      · refine lv_iload hE.x hE.b dX9_leave_22 (lv_at hl 4 rfl) ?_
        refine lv_iload hE.x hE.b dX9_leave_24 (lv_at hl 5 rfl) ?_
        refine z_qi hB (z_cS hE hB (c_X9_isAsker l g dy sh (mW g o a F L A ++ X)) q4_174 kX9_isAsker ⟨rfl, rfl⟩ ⟨Nat.le_of_ble_eq_true rfl, Nat.le_of_ble_eq_true rfl⟩ rfl hl.1 rfl (Nat.le_of_ble_eq_true rfl) dX9_leave_26 ⟨Nat.le_of_ble_eq_true rfl, Nat.le_of_ble_eq_true rfl⟩) (fun r_16 w_17 H locs hw hB => ?_)
        obtain ⟨hr9, hw9⟩ := hw
        have hr9 := hr9.symm
        subst hr9
        have hw9 := hw9.symm
        subst hw9
        refine z_bt (b := (pIn 0 1 dy && pIn 0 1 sh)) (tgt := 39) hE dX9_leave_29 (by decide) (fun c_18 => ?_) (fun c_18 => ?_)
        · refine lv_aload_n hE.x hE.b dX9_leave_39 rfl (lv_at hl 0 rfl) ?_
          refine z_get (v := .ref (a 0)) hE hB inX9 0 rfl rfl 0 (by decide) q4_1 (fun _ h9 => h9) rfl dX9_leave_40 ?_
          refine lv_iconst (v := nI 2) hE.x hE.b dX9_leave_43 rfl ?_
          refine z_iald (k := 2) (f := (A 0)) hE hB 1 rfl (by omega) (by decide) dX9_leave_44 ?_
          refine z_top (y := (nI V)) hV ?_
          refine lv_bipush (v := (nI 8)) hE.x hE.b dX9_leave_45 rfl ?_
          refine z_ne (tgt := 55) (X := ((V : Nat) : Int)) (Y := (8 : Int)) hE dX9_leave_47 (by decide) (nI_toInt (n := V) (by omega)) rfl (fun c_19 => ?_) (fun c_19 => ?_)
          · refine lv_bipush (v := (nI 86)) hE.x hE.b dX9_leave_55 rfl ?_
            refine lv_iconst (v := nI 5) hE.x hE.b dX9_leave_57 rfl ?_
            refine lv_aload_n hE.x hE.b dX9_leave_58 rfl (lv_at hl 0 rfl) ?_
            refine z_get (v := .ref (a 0)) hE hB inX9 0 rfl rfl 0 (by decide) q4_1 (fun _ h9 => h9) rfl dX9_leave_59 ?_
            refine lv_iconst (v := nI 2) hE.x hE.b dX9_leave_62 rfl ?_
            refine z_iald (k := 2) (f := (A 0)) hE hB 1 rfl (by omega) (by decide) dX9_leave_63 ?_
            refine z_top (y := (nI V)) hV ?_
            refine z_imulN hE dX9_leave_64 ?_
            refine z_iaddN hE dX9_leave_65 ?_
            refine lv_istore (lv' := [(6, .int (nI (86 + (5 * V)))), (0, .ref o), (1, .int tw), (2, .int ac), (3, .int dd), (4, .int dy), (5, .int sh)]) hE.x hE.b dX9_leave_66 hl (by decide) rfl (fun ls hl => ?_)
            refine lv_aload_n hE.x hE.b dX9_leave_68 rfl (lv_at hl 1 rfl) ?_
            refine z_get (v := .ref (a 0)) hE hB inX9 0 rfl rfl 0 (by decide) q4_1 (fun _ h9 => h9) rfl dX9_leave_69 ?_
            refine lv_iload hE.x hE.b dX9_leave_72 (lv_at hl 0 rfl) ?_
            refine lv_iload_n hE.x hE.b dX9_leave_74 rfl (lv_at hl 2 rfl) ?_
            refine z_iast (k := (86 + (5 * V))) (f := (A 0)) (x := tw) (ws' := mW g o a F L (updA A 0 (upd (A 0) (86 + (5 * V)) tw)) ++ X) hE hB 1 rfl (by omega) (by decide) rfl dX9_leave_75 (fun H locs hB => ?_)
            refine lv_aload_n hE.x hE.b dX9_leave_76 rfl (lv_at hl 1 rfl) ?_
            refine z_get (v := .ref (a 0)) hE hB inX9 0 rfl rfl 0 (by decide) q4_1 (fun _ h9 => h9) rfl dX9_leave_77 ?_
            refine lv_iload hE.x hE.b dX9_leave_80 (lv_at hl 0 rfl) ?_
            refine lv_iconst (v := nI 1) hE.x hE.b dX9_leave_82 rfl ?_
            refine z_iaddN hE dX9_leave_83 ?_
            refine lv_iload_n hE.x hE.b dX9_leave_84 rfl (lv_at hl 3 rfl) ?_
            refine z_iast (k := ((86 + (5 * V)) + 1)) (f := (upd (A 0) (86 + (5 * V)) tw)) (x := ac) (ws' := mW g o a F L (updA A 0 (upd (upd (A 0) (86 + (5 * V)) tw) ((86 + (5 * V)) + 1) ac)) ++ X) hE hB 1 rfl (by omega) (by decide) rfl dX9_leave_85 (fun H locs hB => ?_)
            refine lv_aload_n hE.x hE.b dX9_leave_86 rfl (lv_at hl 1 rfl) ?_
            refine z_get (v := .ref (a 0)) hE hB inX9 0 rfl rfl 0 (by decide) q4_1 (fun _ h9 => h9) rfl dX9_leave_87 ?_
            refine lv_iload hE.x hE.b dX9_leave_90 (lv_at hl 0 rfl) ?_
            refine lv_iconst (v := nI 2) hE.x hE.b dX9_leave_92 rfl ?_
            refine z_iaddN hE dX9_leave_93 ?_
            refine lv_iload_n hE.x hE.b dX9_leave_94 rfl (lv_at hl 4 rfl) ?_
            refine z_iast (k := ((86 + (5 * V)) + 2)) (f := (upd (upd (A 0) (86 + (5 * V)) tw) ((86 + (5 * V)) + 1) ac)) (x := dd) (ws' := mW g o a F L (updA A 0 (upd (upd (upd (A 0) (86 + (5 * V)) tw) ((86 + (5 * V)) + 1) ac) ((86 + (5 * V)) + 2) dd)) ++ X) hE hB 1 rfl (by omega) (by decide) rfl dX9_leave_95 (fun H locs hB => ?_)
            refine lv_aload_n hE.x hE.b dX9_leave_96 rfl (lv_at hl 1 rfl) ?_
            refine z_get (v := .ref (a 0)) hE hB inX9 0 rfl rfl 0 (by decide) q4_1 (fun _ h9 => h9) rfl dX9_leave_97 ?_
            refine lv_iload hE.x hE.b dX9_leave_100 (lv_at hl 0 rfl) ?_
            refine lv_iconst (v := nI 3) hE.x hE.b dX9_leave_102 rfl ?_
            refine z_iaddN hE dX9_leave_103 ?_
            refine lv_iload hE.x hE.b dX9_leave_104 (lv_at hl 5 rfl) ?_
            refine z_iast (k := ((86 + (5 * V)) + 3)) (f := (upd (upd (upd (A 0) (86 + (5 * V)) tw) ((86 + (5 * V)) + 1) ac) ((86 + (5 * V)) + 2) dd)) (x := dy) (ws' := mW g o a F L (updA A 0 (upd (upd (upd (upd (A 0) (86 + (5 * V)) tw) ((86 + (5 * V)) + 1) ac) ((86 + (5 * V)) + 2) dd) ((86 + (5 * V)) + 3) dy)) ++ X) hE hB 1 rfl (by omega) (by decide) rfl dX9_leave_106 (fun H locs hB => ?_)
            refine lv_aload_n hE.x hE.b dX9_leave_107 rfl (lv_at hl 1 rfl) ?_
            refine z_get (v := .ref (a 0)) hE hB inX9 0 rfl rfl 0 (by decide) q4_1 (fun _ h9 => h9) rfl dX9_leave_108 ?_
            refine lv_iload hE.x hE.b dX9_leave_111 (lv_at hl 0 rfl) ?_
            refine lv_iconst (v := nI 4) hE.x hE.b dX9_leave_113 rfl ?_
            refine z_iaddN hE dX9_leave_114 ?_
            refine lv_iload hE.x hE.b dX9_leave_115 (lv_at hl 6 rfl) ?_
            refine z_iast (k := ((86 + (5 * V)) + 4)) (f := (upd (upd (upd (upd (A 0) (86 + (5 * V)) tw) ((86 + (5 * V)) + 1) ac) ((86 + (5 * V)) + 2) dd) ((86 + (5 * V)) + 3) dy)) (x := sh) (ws' := mW g o a F L (updA A 0 (upd (upd (upd (upd (upd (A 0) (86 + (5 * V)) tw) ((86 + (5 * V)) + 1) ac) ((86 + (5 * V)) + 2) dd) ((86 + (5 * V)) + 3) dy) ((86 + (5 * V)) + 4) sh)) ++ X) hE hB 1 rfl (by omega) (by decide) rfl dX9_leave_117 (fun H locs hB => ?_)
            refine lv_aload_n hE.x hE.b dX9_leave_118 rfl (lv_at hl 1 rfl) ?_
            refine z_get (v := .ref (a 0)) hE hB inX9 0 rfl rfl 0 (by decide) q4_1 (fun _ h9 => h9) rfl dX9_leave_119 ?_
            refine lv_iconst (v := nI 2) hE.x hE.b dX9_leave_122 rfl ?_
            refine lv_dup2_11 hE.x hE.b dX9_leave_123 rfl rfl ?_
            refine z_iald (k := 2) (f := (upd (upd (upd (upd (upd (A 0) (86 + (5 * V)) tw) ((86 + (5 * V)) + 1) ac) ((86 + (5 * V)) + 2) dd) ((86 + (5 * V)) + 3) dy) ((86 + (5 * V)) + 4) sh)) hE hB 1 rfl (by omega) (by decide) dX9_leave_124 ?_
            refine z_top (y := (nI V)) (by simp only [upd]; rw [if_neg (by omega), if_neg (by omega), if_neg (by omega), if_neg (by omega), if_neg (by omega)]; exact hV) ?_
            refine lv_iconst (v := nI 1) hE.x hE.b dX9_leave_125 rfl ?_
            refine z_iaddN hE dX9_leave_126 ?_
            refine z_iast (k := 2) (f := (upd (upd (upd (upd (upd (A 0) (86 + (5 * V)) tw) ((86 + (5 * V)) + 1) ac) ((86 + (5 * V)) + 2) dd) ((86 + (5 * V)) + 3) dy) ((86 + (5 * V)) + 4) sh)) (x := (nI (V + 1))) (ws' := mW g o a F L (updA A 0 (upd (upd (upd (upd (upd (upd (A 0) (86 + (5 * V)) tw) ((86 + (5 * V)) + 1) ac) ((86 + (5 * V)) + 2) dd) ((86 + (5 * V)) + 3) dy) ((86 + (5 * V)) + 4) sh) 2 (nI (V + 1)))) ++ X) hE hB 1 rfl (by omega) (by decide) rfl dX9_leave_127 (fun H locs hB => ?_)
            refine lv_aload_n hE.x hE.b dX9_leave_128 rfl (lv_at hl 1 rfl) ?_
            refine z_get (v := .ref (a 0)) hE hB inX9 0 rfl rfl 0 (by decide) q4_1 (fun _ h9 => h9) rfl dX9_leave_129 ?_
            refine lv_iconst (v := nI 2) hE.x hE.b dX9_leave_132 rfl ?_
            refine z_iald (k := 2) (f := (upd (upd (upd (upd (upd (upd (A 0) (86 + (5 * V)) tw) ((86 + (5 * V)) + 1) ac) ((86 + (5 * V)) + 2) dd) ((86 + (5 * V)) + 3) dy) ((86 + (5 * V)) + 4) sh) 2 (nI (V + 1)))) hE hB 1 rfl (by omega) (by decide) dX9_leave_133 ?_
            refine z_top (y := (nI (V + 1))) (by simp [upd]) ?_
            refine lv_iconst (v := nI 1) hE.x hE.b dX9_leave_134 rfl ?_
            refine z_isubN hE (by omega) dX9_leave_135 ?_
            exact z_iret (v := (nI ((V + 1) - 1))) (ws := mW g o a F L (updA A 0 (upd (upd (upd (upd (upd (upd (A 0) (86 + (5 * V)) tw) ((86 + (5 * V)) + 1) ac) ((86 + (5 * V)) + 2) dd) ((86 + (5 * V)) + 3) dy) ((86 + (5 * V)) + 4) sh) 2 (nI (V + 1)))) ++ X) hE hB hr (⟨by unfold leaveR askOK; simp only [c_3, c_8, c_13, c_18, Bool.and_true, Bool.true_and, if_true]; rw [if_neg (by omega), Nat.add_sub_cancel], by unfold leaveA askOK; simp only [c_3, c_8, c_13, c_18, Bool.and_true, Bool.true_and, if_true]; rw [if_neg (by omega)]; rfl⟩) dX9_leave_136
          · refine lv_aload_n hE.x hE.b dX9_leave_50 rfl (lv_at hl 0 rfl) ?_
            refine z_qi hB (z_cV hE hB (c_X9_full l g o a F L A X) q4_95 kX9_full ⟨rfl, rfl⟩ ⟨Nat.le_of_ble_eq_true rfl, Nat.le_of_ble_eq_true rfl⟩ 0 rfl rfl rfl hl.1 rfl (Nat.le_of_ble_eq_true rfl) dX9_leave_51 ⟨Nat.le_of_ble_eq_true rfl, Nat.le_of_ble_eq_true rfl⟩) (fun r_20 w_21 H locs hw hB => ?_)
            obtain ⟨hr9, hw9⟩ := hw
            have hr9 := hr9.symm
            subst hr9
            have hw9 := hw9.symm
            subst hw9
            exact z_iret (v := (-4)) (ws := mW g o a F L (bump 2 A) ++ X) hE hB hr (⟨by unfold leaveR askOK; simp only [c_3, c_8, c_13, c_18, Bool.and_true, Bool.true_and, if_true]; rw [if_pos (by omega)], by unfold leaveA askOK; simp only [c_3, c_8, c_13, c_18, Bool.and_true, Bool.true_and, if_true]; rw [if_pos (by omega)]⟩) dX9_leave_54
        · refine lv_aload_n hE.x hE.b dX9_leave_32 rfl (lv_at hl 0 rfl) ?_
          refine lv_bipush (v := (-2)) hE.x hE.b dX9_leave_33 rfl ?_
          refine z_qi hB (z_cV hE hB (c_X9_bad l g o a F L A X (-2)) q4_91 kX9_bad ⟨rfl, rfl⟩ ⟨Nat.le_of_ble_eq_true rfl, Nat.le_of_ble_eq_true rfl⟩ 0 rfl rfl rfl hl.1 rfl (Nat.le_of_ble_eq_true rfl) dX9_leave_35 ⟨Nat.le_of_ble_eq_true rfl, Nat.le_of_ble_eq_true rfl⟩) (fun r_22 w_23 H locs hw hB => ?_)
          obtain ⟨hr9, hw9⟩ := hw
          have hr9 := hr9.symm
          subst hr9
          have hw9 := hw9.symm
          subst hw9
          exact z_iret (v := (-2)) (ws := mW g o a F L (bump 0 A) ++ X) hE hB hr (⟨by unfold leaveR askOK; simp only [c_3, c_8, c_13, c_18, Bool.and_false, Bool.false_and, Bool.false_eq_true, if_false, Bool.and_true, Bool.true_and], by unfold leaveA askOK; simp only [c_3, c_8, c_13, c_18, Bool.and_false, Bool.false_and, Bool.false_eq_true, if_false, Bool.and_true, Bool.true_and]⟩) dX9_leave_38

set_option maxHeartbeats 4000000 in
set_option maxRecDepth 100000 in
theorem c_X9_burn (l : Launch) (g : zG) (o : Nat) (a : Nat → Nat) (F : Nat → Int32) (L : Nat → Int64) (A : Nat → Nat → Int32) (X : va_W) (T : Nat) (C : Nat) (V : Nat) (U : Nat) (hn : nOK (A 0) T C V U) : Met l yX9_burn (Cond.code yX9_burn cX9_burn 2 (some .int) :: TBL) { frames := 0, cells := 0, slots := 0, locals := 0 } (zPc [.ref o] g (mW g o a F L A ++ X)) (zQi g (fun r ws => r = nI V ∧ ws = mW g o a F L (updA A 0 (upd (A 0) 2 (nI 0))) ++ X)) 0 0 (zA (gz g)) := by
  refine z_start (by decide +kernel) rfl (Nat.le_of_ble_eq_true rfl) ?_
  intro p e s m args below meth c ls hE hr hnm hB hl
  have hl : lv_has ls 2 [(0, .ref o)] := hl
  revert hB
  generalize s.heap = H
  generalize ([] : List Loc) = locs
  intro hB
  have hT := hn.T
  have hT6 := hn.T6
  have hC := hn.C
  have hC8 := hn.C8
  have hV := hn.V
  have hV8 := hn.V8
  have hU := hn.U
  have hU8 := hn.U8
  refine lv_aload_n hE.x hE.b dX9_burn_0 rfl (lv_at hl 0 rfl) ?_
  refine z_get (v := .ref (a 0)) hE hB inX9 0 rfl rfl 0 (by decide) q4_1 (fun _ h9 => h9) rfl dX9_burn_1 ?_
  refine lv_iconst (v := nI 2) hE.x hE.b dX9_burn_4 rfl ?_
  refine z_iald (k := 2) (f := (A 0)) hE hB 1 rfl (by omega) (by decide) dX9_burn_5 ?_
  refine z_top (y := (nI V)) hV ?_
  refine lv_istore_n (lv' := [(1, .int (nI V)), (0, .ref o)]) hE.x hE.b dX9_burn_6 rfl hl (by decide) rfl (fun ls hl => ?_)
  refine lv_aload_n hE.x hE.b dX9_burn_7 rfl (lv_at hl 1 rfl) ?_
  refine z_get (v := .ref (a 0)) hE hB inX9 0 rfl rfl 0 (by decide) q4_1 (fun _ h9 => h9) rfl dX9_burn_8 ?_
  refine lv_iconst (v := nI 2) hE.x hE.b dX9_burn_11 rfl ?_
  refine lv_iconst (v := nI 0) hE.x hE.b dX9_burn_12 rfl ?_
  refine z_iast (k := 2) (f := (A 0)) (x := (nI 0)) (ws' := mW g o a F L (updA A 0 (upd (A 0) 2 (nI 0))) ++ X) hE hB 1 rfl (by omega) (by decide) rfl dX9_burn_13 (fun H locs hB => ?_)
  refine lv_iload_n hE.x hE.b dX9_burn_14 rfl (lv_at hl 0 rfl) ?_
  exact z_iret (v := (nI V)) (ws := mW g o a F L (updA A 0 (upd (A 0) 2 (nI 0))) ++ X) hE hB hr (⟨rfl, rfl⟩) dX9_burn_15

set_option maxHeartbeats 4000000 in
set_option maxRecDepth 100000 in
theorem c_X9_forged (l : Launch) (g : zG) (o : Nat) (a : Nat → Nat) (F : Nat → Int32) (L : Nat → Int64) (A : Nat → Nat → Int32) (X : va_W) (T : Nat) (C : Nat) (V : Nat) (U : Nat) (hn : nOK (A 0) T C V U) : Met l yX9_forged (Cond.code yX9_forged cX9_forged 4 (some .int) :: TBL) { frames := 6, cells := 0, slots := 0, locals := 154 } (zPc [.ref o] g (mW g o a F L A ++ X)) (zQi g (fun r ws => ∃ (F1 : Nat → Int32), r = (forgedR (A 0) C V) ∧ ws = mW g o a F1 L A ++ X ∧ F1 16 = F 16)) 0 0 (zA (gz g)) := by
  refine z_start (by decide +kernel) rfl (Nat.le_of_ble_eq_true rfl) ?_
  intro p e s m args below meth c ls hE hr hnm hB hl
  have hl : lv_has ls 4 [(0, .ref o)] := hl
  revert hB
  generalize s.heap = H
  generalize ([] : List Loc) = locs
  intro hB
  have hT := hn.T
  have hT6 := hn.T6
  have hC := hn.C
  have hC8 := hn.C8
  have hV := hn.V
  have hV8 := hn.V8
  have hU := hn.U
  have hU8 := hn.U8
  have h16 : F 16 = F 16 := rfl
  refine lv_iconst (v := nI 0) hE.x hE.b dX9_forged_0 rfl ?_
  refine lv_istore_n (lv' := [(1, .int (nI 0)), (0, .ref o)]) hE.x hE.b dX9_forged_1 rfl hl (by decide) rfl (fun ls hl => ?_)
  refine lv_iconst (v := nI 0) hE.x hE.b dX9_forged_2 rfl ?_
  refine lv_istore_n (lv' := [(2, .int (nI 0)), (1, .int (nI 0)), (0, .ref o)]) hE.x hE.b dX9_forged_3 rfl hl (by decide) rfl (fun ls hl => ?_)
  have k4 : ∀ (fu : Nat) (b : Nat) (k : Nat) (F1 : Nat → Int32) (H : Heap) (locs : List Loc) (ls : Array Slot), V - k < fu → (k ≤ V) → (F1 16 = F 16) → (b = rdB (fgP (A 0) C) k) → zB g s (mW g o a F1 L A ++ X) H locs → lv_has ls 4 [(2, .int (nI k)), (1, .int (nI b)), (0, .ref o)] → W p l e { frames := 6, cells := 0, slots := 0, locals := 154 } s m args below meth c H locs 0 0 (MQ below (zQi g (fun r ws => ∃ (F1 : Nat → Int32), r = (forgedR (A 0) C V) ∧ ws = mW g o a F1 L A ++ X ∧ F1 16 = F 16)) args s 0 0 (zA (gz g))) (F0 m 4 ls []) := by
    intro fu
    induction fu with
    | zero => intro b k F1 H locs ls hfu hk h16 hb hB hl; exact absurd hfu (Nat.not_lt_zero _)
    | succ fu ih4 =>
      intro b k F1 H locs ls hfu hk h16 hb hB hl
      refine lv_iload_n hE.x hE.b dX9_forged_4 rfl (lv_at hl 0 rfl) ?_
      refine lv_aload_n hE.x hE.b dX9_forged_5 rfl (lv_at hl 2 rfl) ?_
      refine z_get (v := .ref (a 0)) hE hB inX9 0 rfl rfl 0 (by decide) q4_1 (fun _ h9 => h9) rfl dX9_forged_6 ?_
      refine lv_iconst (v := nI 2) hE.x hE.b dX9_forged_9 rfl ?_
      refine z_iald (k := 2) (f := (A 0)) hE hB 1 rfl (by omega) (by decide) dX9_forged_10 ?_
      refine z_top (y := (nI V)) hV ?_
      refine z_ge (tgt := 83) (X := ((k : Nat) : Int)) (Y := ((V : Nat) : Int)) hE dX9_forged_11 (by decide) (nI_toInt (n := k) (by omega)) (nI_toInt (n := V) (by omega)) (fun c_1 => ?_) (fun c_1 => ?_)
      · refine lv_iload_n hE.x hE.b dX9_forged_83 rfl (lv_at hl 1 rfl) ?_
        exact z_iret (v := (nI b)) (ws := mW g o a F1 L A ++ X) hE hB hr (⟨F1, by unfold forgedR; rw [hb, show k = V by omega], rfl, h16⟩) dX9_forged_84
      · obtain ⟨t, a1, a2, a3, a4, ht, -, -, -, -, et, -⟩ := hn.Lv k (by omega)
        refine lv_bipush (v := (nI 86)) hE.x hE.b dX9_forged_14 rfl ?_
        refine lv_iconst (v := nI 5) hE.x hE.b dX9_forged_16 rfl ?_
        refine lv_iload_n hE.x hE.b dX9_forged_17 rfl (lv_at hl 0 rfl) ?_
        refine z_imulN hE dX9_forged_18 ?_
        refine z_iaddN hE dX9_forged_19 ?_
        refine lv_istore_n (lv' := [(3, .int (nI (86 + (5 * k)))), (2, .int (nI k)), (1, .int (nI b)), (0, .ref o)]) hE.x hE.b dX9_forged_20 rfl hl (by decide) rfl (fun ls hl => ?_)
        refine lv_iload_n hE.x hE.b dX9_forged_21 rfl (lv_at hl 2 rfl) ?_
        refine lv_aload_n hE.x hE.b dX9_forged_22 rfl (lv_at hl 3 rfl) ?_
        refine lv_aload_n hE.x hE.b dX9_forged_23 rfl (lv_at hl 3 rfl) ?_
        refine z_get (v := .ref (a 0)) hE hB inX9 0 rfl rfl 0 (by decide) q4_1 (fun _ h9 => h9) rfl dX9_forged_24 ?_
        refine lv_iload_n hE.x hE.b dX9_forged_27 rfl (lv_at hl 0 rfl) ?_
        refine z_iald (k := (86 + (5 * k))) (f := (A 0)) hE hB 1 rfl (by omega) (by decide) dX9_forged_28 ?_
        refine z_top (y := (nI t)) et ?_
        refine lv_aload_n hE.x hE.b dX9_forged_29 rfl (lv_at hl 3 rfl) ?_
        refine z_get (v := .ref (a 0)) hE hB inX9 0 rfl rfl 0 (by decide) q4_1 (fun _ h9 => h9) rfl dX9_forged_30 ?_
        refine lv_iload_n hE.x hE.b dX9_forged_33 rfl (lv_at hl 0 rfl) ?_
        refine lv_iconst (v := nI 1) hE.x hE.b dX9_forged_34 rfl ?_
        refine z_iaddN hE dX9_forged_35 ?_
        refine z_iald (k := ((86 + (5 * k)) + 1)) (f := (A 0)) hE hB 1 rfl (by omega) (by decide) dX9_forged_36 ?_
        refine lv_aload_n hE.x hE.b dX9_forged_37 rfl (lv_at hl 3 rfl) ?_
        refine z_get (v := .ref (a 0)) hE hB inX9 0 rfl rfl 0 (by decide) q4_1 (fun _ h9 => h9) rfl dX9_forged_38 ?_
        refine lv_iload_n hE.x hE.b dX9_forged_41 rfl (lv_at hl 0 rfl) ?_
        refine lv_iconst (v := nI 2) hE.x hE.b dX9_forged_42 rfl ?_
        refine z_iaddN hE dX9_forged_43 ?_
        refine z_iald (k := ((86 + (5 * k)) + 2)) (f := (A 0)) hE hB 1 rfl (by omega) (by decide) dX9_forged_44 ?_
        refine lv_aload_n hE.x hE.b dX9_forged_45 rfl (lv_at hl 3 rfl) ?_
        refine z_get (v := .ref (a 0)) hE hB inX9 0 rfl rfl 0 (by decide) q4_1 (fun _ h9 => h9) rfl dX9_forged_46 ?_
        refine lv_iload_n hE.x hE.b dX9_forged_49 rfl (lv_at hl 0 rfl) ?_
        refine lv_iconst (v := nI 3) hE.x hE.b dX9_forged_50 rfl ?_
        refine z_iaddN hE dX9_forged_51 ?_
        refine z_iald (k := ((86 + (5 * k)) + 3)) (f := (A 0)) hE hB 1 rfl (by omega) (by decide) dX9_forged_52 ?_
        refine lv_aload_n hE.x hE.b dX9_forged_53 rfl (lv_at hl 3 rfl) ?_
        refine z_get (v := .ref (a 0)) hE hB inX9 0 rfl rfl 0 (by decide) q4_1 (fun _ h9 => h9) rfl dX9_forged_54 ?_
        refine lv_iload_n hE.x hE.b dX9_forged_57 rfl (lv_at hl 0 rfl) ?_
        refine lv_iconst (v := nI 4) hE.x hE.b dX9_forged_58 rfl ?_
        refine z_iaddN hE dX9_forged_59 ?_
        refine z_iald (k := ((86 + (5 * k)) + 4)) (f := (A 0)) hE hB 1 rfl (by omega) (by decide) dX9_forged_60 ?_
        refine lv_iconst (v := nI 0) hE.x hE.b dX9_forged_61 rfl ?_
        refine z_qi hB (z_cV hE hB (c_X9_isAllowed l g o a F1 L A X C t ((A 0) ((86 + (5 * k)) + 1)) ((A 0) ((86 + (5 * k)) + 2)) ((A 0) ((86 + (5 * k)) + 3)) ((A 0) ((86 + (5 * k)) + 4)) 0 hC (by omega) (by omega) (by omega)) q4_207 kX9_isAllowed ⟨rfl, rfl⟩ ⟨Nat.le_of_ble_eq_true rfl, Nat.le_of_ble_eq_true rfl⟩ 0 rfl rfl rfl hl.1 rfl (Nat.le_of_ble_eq_true rfl) dX9_forged_62 ⟨Nat.le_of_ble_eq_true rfl, Nat.le_of_ble_eq_true rfl⟩) (fun r_2 w_3 H locs hw hB => ?_)
        obtain ⟨F1_4, hr9, hw9, hf_5⟩ := hw
        have hr9 := hr9.symm
        subst hr9
        have hw9 := hw9.symm
        subst hw9
        have h16 := hf_5.trans h16
        refine z_bf (b := (isA (A 0) C t ((A 0) ((86 + (5 * k)) + 1)) ((A 0) ((86 + (5 * k)) + 2)) ((A 0) ((86 + (5 * k)) + 3)) ((A 0) ((86 + (5 * k)) + 4)) 0)) (tgt := 72) hE dX9_forged_65 (by decide) (fun c_6 => ?_) (fun c_6 => ?_)
        · refine lv_iconst (v := nI 1) hE.x hE.b dX9_forged_72 rfl ?_
          refine lv_iload_n hE.x hE.b dX9_forged_73 rfl (lv_at hl 1 rfl) ?_
          refine lv_ishl hE.x hE.b dX9_forged_74 ?_
          refine z_top (y := (nI (2 ^ k))) (shl_8 k (by omega)) ?_
          refine lv_ior hE.x hE.b dX9_forged_75 ?_
          refine z_top (y := (nI (b ||| (2 ^ k)))) (or_nI _ _) ?_
          refine lv_istore_n (lv' := [(1, .int (nI (b ||| (2 ^ k)))), (3, .int (nI (86 + (5 * k)))), (2, .int (nI k)), (0, .ref o)]) hE.x hE.b dX9_forged_76 rfl hl (by decide) rfl (fun ls hl => ?_)
          refine lv_iinc (v := (nI (k + 1))) (lv' := [(2, .int (nI (k + 1))), (1, .int (nI (b ||| (2 ^ k)))), (3, .int (nI (86 + (5 * k)))), (0, .ref o)]) hE.x hE.b dX9_forged_77 hl (k := 2) rfl (nI_add _ _) (by decide) rfl (fun ls hl => ?_)
          refine lv_goto (tgt := 4) hE.x hE.b dX9_forged_80 (by decide) ?_
          exact ih4 (b ||| (2 ^ k)) (k + 1) F1_4 _ _ _ (by omega) (by omega) h16 (rdB_y hb (by rw [fgP_d et (by omega), c_6]; rfl)) hB (lv_sub hl [0, 1, 3] rfl)
        · refine lv_iconst (v := nI 0) hE.x hE.b dX9_forged_68 rfl ?_
          refine lv_goto (tgt := 75) hE.x hE.b dX9_forged_69 (by decide) ?_
          refine lv_ior hE.x hE.b dX9_forged_75 ?_
          refine z_top (y := (nI (b ||| 0))) (or_nI _ _) ?_
          refine lv_istore_n (lv' := [(1, .int (nI (b ||| 0))), (3, .int (nI (86 + (5 * k)))), (2, .int (nI k)), (0, .ref o)]) hE.x hE.b dX9_forged_76 rfl hl (by decide) rfl (fun ls hl => ?_)
          refine lv_iinc (v := (nI (k + 1))) (lv' := [(2, .int (nI (k + 1))), (1, .int (nI (b ||| 0))), (3, .int (nI (86 + (5 * k)))), (0, .ref o)]) hE.x hE.b dX9_forged_77 hl (k := 2) rfl (nI_add _ _) (by decide) rfl (fun ls hl => ?_)
          refine lv_goto (tgt := 4) hE.x hE.b dX9_forged_80 (by decide) ?_
          exact ih4 (b ||| 0) (k + 1) F1_4 _ _ _ (by omega) (by omega) h16 (rdB_yf hb (by rw [fgP_d et (by omega), c_6]; rfl)) hB (lv_sub hl [0, 1, 3] rfl)
  exact k4 (V - 0 + 1) 0 0 F _ _ _ (Nat.lt_succ_self _) (by omega) h16 rfl hB hl

set_option maxHeartbeats 4000000 in
set_option maxRecDepth 100000 in
theorem c_X9_whose (l : Launch) (g : zG) (o : Nat) (a : Nat → Nat) (F : Nat → Int32) (L : Nat → Int64) (A : Nat → Nat → Int32) (X : va_W) (T : Nat) (C : Nat) (V : Nat) (U : Nat) (tw : Int32) (w : Int32) (ac : Int32) (dd : Int32) (dy : Int32) (sh : Int32) (hn : nOK (A 0) T C V U) : Met l yX9_whose (Cond.code yX9_whose cX9_whose 9 (some .int) :: TBL) { frames := 6, cells := 0, slots := 0, locals := 154 } (zPc [.ref o, .int tw, .int w, .int ac, .int dd, .int dy, .int sh] g (mW g o a F L A ++ X)) (zQi g (fun r ws => ∃ (F2 : Nat → Int32) (f1 : Nat → Int32), r = (whoseR (A 0) T C tw w ac dd dy sh) ∧ ws = mW g o a F2 L (updA (chk (whoseOK T tw w ac dd dy sh) A) 4 f1) ++ X ∧ F2 16 = F 16)) 0 0 (zA (gz g)) := by
  refine z_start (by decide +kernel) rfl (Nat.le_of_ble_eq_true rfl) ?_
  intro p e s m args below meth c ls hE hr hnm hB hl
  have hl : lv_has ls 9 [(0, .ref o), (1, .int tw), (2, .int w), (3, .int ac), (4, .int dd), (5, .int dy), (6, .int sh)] := hl
  revert hB
  generalize s.heap = H
  generalize ([] : List Loc) = locs
  intro hB
  have hT := hn.T
  have hT6 := hn.T6
  have hC := hn.C
  have hC8 := hn.C8
  have hV := hn.V
  have hV8 := hn.V8
  have hU := hn.U
  have hU8 := hn.U8
  have h16 : F 16 = F 16 := rfl
  refine lv_aload_n hE.x hE.b dX9_whose_0 rfl (lv_at hl 0 rfl) ?_
  refine lv_iload_n hE.x hE.b dX9_whose_1 rfl (lv_at hl 1 rfl) ?_
  refine z_qi hB (z_cV hE hB (c_X9_isTown l g o a F L A X T tw hT (by omega)) q4_106 kX9_isTown ⟨rfl, rfl⟩ ⟨Nat.le_of_ble_eq_true rfl, Nat.le_of_ble_eq_true rfl⟩ 0 rfl rfl rfl hl.1 rfl (Nat.le_of_ble_eq_true rfl) dX9_whose_2 ⟨Nat.le_of_ble_eq_true rfl, Nat.le_of_ble_eq_true rfl⟩) (fun r_1 w_2 H locs hw hB => ?_)
  obtain ⟨hr9, hw9⟩ := hw
  have hr9 := hr9.symm
  subst hr9
  have hw9 := hw9.symm
  subst hw9
  refine z_bf (b := (pTown T tw)) (tgt := 45) hE dX9_whose_5 (by decide) (fun c_3 => ?_) (fun c_3 => ?_)
  · refine lv_aload_n hE.x hE.b dX9_whose_45 rfl (lv_at hl 0 rfl) ?_
    refine lv_bipush (v := (-2)) hE.x hE.b dX9_whose_46 rfl ?_
    refine z_qi hB (z_cV hE hB (c_X9_bad l g o a F L A X (-2)) q4_91 kX9_bad ⟨rfl, rfl⟩ ⟨Nat.le_of_ble_eq_true rfl, Nat.le_of_ble_eq_true rfl⟩ 0 rfl rfl rfl hl.1 rfl (Nat.le_of_ble_eq_true rfl) dX9_whose_48 ⟨Nat.le_of_ble_eq_true rfl, Nat.le_of_ble_eq_true rfl⟩) (fun r_4 w_5 H locs hw hB => ?_)
    obtain ⟨hr9, hw9⟩ := hw
    have hr9 := hr9.symm
    subst hr9
    have hw9 := hw9.symm
    subst hw9
    exact z_iret (v := (-2)) (ws := mW g o a F L (bump 0 A) ++ X) hE hB hr (⟨F, A 4, by unfold whoseR whoseOK; simp only [c_3, Bool.and_false, Bool.false_and, Bool.false_eq_true, if_false, Bool.and_true, Bool.true_and], by unfold chk whoseOK; simp only [c_3, Bool.and_false, Bool.false_and, Bool.false_eq_true, if_false, Bool.and_true, Bool.true_and]; rfl, rfl⟩) dX9_whose_51
  · refine lv_iload_n hE.x hE.b dX9_whose_8 rfl (lv_at hl 2 rfl) ?_
    refine lv_i2l hE.x hE.b dX9_whose_9 rfl ?_
    refine lv_lconst (v := lN 0) hE.x hE.b dX9_whose_10 rfl ?_
    refine lv_ldc2 (v := lN 20) hE.x hE.b hE.o (hE.t _ q5_34) dX9_whose_11 ?_
    refine z_qi hB (z_cS hE hB (c_X9_in l g (Int32.toInt64 w) (lN 0) (lN 20) (Int32.toInt w) 0 20 (mW g o a F L A ++ X) (Int32.toInt_toInt64 _) (by decide) (by decide)) q4_88 kX9_in ⟨rfl, rfl⟩ ⟨Nat.le_of_ble_eq_true rfl, Nat.le_of_ble_eq_true rfl⟩ rfl hl.1 rfl (Nat.le_of_ble_eq_true rfl) dX9_whose_14 ⟨Nat.le_of_ble_eq_true rfl, Nat.le_of_ble_eq_true rfl⟩) (fun r_6 w_7 H locs hw hB => ?_)
    obtain ⟨hr9, hw9⟩ := hw
    have hr9 := hr9.symm
    subst hr9
    have hw9 := hw9.symm
    subst hw9
    refine z_bf (b := (inZ 0 20 (Int32.toInt w))) (tgt := 45) hE dX9_whose_17 (by decide) (fun c_8 => ?_) (fun c_8 => ?_)
    · refine lv_aload_n hE.x hE.b dX9_whose_45 rfl (lv_at hl 0 rfl) ?_
      refine lv_bipush (v := (-2)) hE.x hE.b dX9_whose_46 rfl ?_
      refine z_qi hB (z_cV hE hB (c_X9_bad l g o a F L A X (-2)) q4_91 kX9_bad ⟨rfl, rfl⟩ ⟨Nat.le_of_ble_eq_true rfl, Nat.le_of_ble_eq_true rfl⟩ 0 rfl rfl rfl hl.1 rfl (Nat.le_of_ble_eq_true rfl) dX9_whose_48 ⟨Nat.le_of_ble_eq_true rfl, Nat.le_of_ble_eq_true rfl⟩) (fun r_9 w_10 H locs hw hB => ?_)
      obtain ⟨hr9, hw9⟩ := hw
      have hr9 := hr9.symm
      subst hr9
      have hw9 := hw9.symm
      subst hw9
      exact z_iret (v := (-2)) (ws := mW g o a F L (bump 0 A) ++ X) hE hB hr (⟨F, A 4, by unfold whoseR whoseOK; simp only [c_3, c_8, Bool.and_false, Bool.false_and, Bool.false_eq_true, if_false, Bool.and_true, Bool.true_and], by unfold chk whoseOK; simp only [c_3, c_8, Bool.and_false, Bool.false_and, Bool.false_eq_true, if_false, Bool.and_true, Bool.true_and]; rfl, rfl⟩) dX9_whose_51
    · refine lv_iload_n hE.x hE.b dX9_whose_20 rfl (lv_at hl 3 rfl) ?_
      refine z_qi hB (z_cS hE hB (c_X9_isAct l g ac (mW g o a F L A ++ X)) q4_119 kX9_isAct ⟨rfl, rfl⟩ ⟨Nat.le_of_ble_eq_true rfl, Nat.le_of_ble_eq_true rfl⟩ rfl hl.1 rfl (Nat.le_of_ble_eq_true rfl) dX9_whose_21 ⟨Nat.le_of_ble_eq_true rfl, Nat.le_of_ble_eq_true rfl⟩) (fun r_11 w_12 H locs hw hB => ?_)
      obtain ⟨hr9, hw9⟩ := hw
      have hr9 := hr9.symm
      subst hr9
      have hw9 := hw9.symm
      subst hw9
      refine z_bf (b := (pIn 0 5 ac)) (tgt := 45) hE dX9_whose_24 (by decide) (fun c_13 => ?_) (fun c_13 => ?_)
      · refine lv_aload_n hE.x hE.b dX9_whose_45 rfl (lv_at hl 0 rfl) ?_
        refine lv_bipush (v := (-2)) hE.x hE.b dX9_whose_46 rfl ?_
        refine z_qi hB (z_cV hE hB (c_X9_bad l g o a F L A X (-2)) q4_91 kX9_bad ⟨rfl, rfl⟩ ⟨Nat.le_of_ble_eq_true rfl, Nat.le_of_ble_eq_true rfl⟩ 0 rfl rfl rfl hl.1 rfl (Nat.le_of_ble_eq_true rfl) dX9_whose_48 ⟨Nat.le_of_ble_eq_true rfl, Nat.le_of_ble_eq_true rfl⟩) (fun r_14 w_15 H locs hw hB => ?_)
        obtain ⟨hr9, hw9⟩ := hw
        have hr9 := hr9.symm
        subst hr9
        have hw9 := hw9.symm
        subst hw9
        exact z_iret (v := (-2)) (ws := mW g o a F L (bump 0 A) ++ X) hE hB hr (⟨F, A 4, by unfold whoseR whoseOK; simp only [c_3, c_8, c_13, Bool.and_false, Bool.false_and, Bool.false_eq_true, if_false, Bool.and_true, Bool.true_and], by unfold chk whoseOK; simp only [c_3, c_8, c_13, Bool.and_false, Bool.false_and, Bool.false_eq_true, if_false, Bool.and_true, Bool.true_and]; rfl, rfl⟩) dX9_whose_51
      · refine lv_iload hE.x hE.b dX9_whose_27 (lv_at hl 4 rfl) ?_
        refine z_qi hB (z_cS hE hB (c_X9_isDay l g dd (mW g o a F L A ++ X)) q4_170 kX9_isDay ⟨rfl, rfl⟩ ⟨Nat.le_of_ble_eq_true rfl, Nat.le_of_ble_eq_true rfl⟩ rfl hl.1 rfl (Nat.le_of_ble_eq_true rfl) dX9_whose_29 ⟨Nat.le_of_ble_eq_true rfl, Nat.le_of_ble_eq_true rfl⟩) (fun r_16 w_17 H locs hw hB => ?_)
        obtain ⟨hr9, hw9⟩ := hw
        have hr9 := hr9.symm
        subst hr9
        have hw9 := hw9.symm
        subst hw9
        refine z_bf (b := (pIn 0 59 dd)) (tgt := 45) hE dX9_whose_32 (by decide) (fun c_18 => ?_) (fun c_18 => ?_)
        · refine lv_aload_n hE.x hE.b dX9_whose_45 rfl (lv_at hl 0 rfl) ?_
          refine lv_bipush (v := (-2)) hE.x hE.b dX9_whose_46 rfl ?_
          refine z_qi hB (z_cV hE hB (c_X9_bad l g o a F L A X (-2)) q4_91 kX9_bad ⟨rfl, rfl⟩ ⟨Nat.le_of_ble_eq_true rfl, Nat.le_of_ble_eq_true rfl⟩ 0 rfl rfl rfl hl.1 rfl (Nat.le_of_ble_eq_true rfl) dX9_whose_48 ⟨Nat.le_of_ble_eq_true rfl, Nat.le_of_ble_eq_true rfl⟩) (fun r_19 w_20 H locs hw hB => ?_)
          obtain ⟨hr9, hw9⟩ := hw
          have hr9 := hr9.symm
          subst hr9
          have hw9 := hw9.symm
          subst hw9
          exact z_iret (v := (-2)) (ws := mW g o a F L (bump 0 A) ++ X) hE hB hr (⟨F, A 4, by unfold whoseR whoseOK; simp only [c_3, c_8, c_13, c_18, Bool.and_false, Bool.false_and, Bool.false_eq_true, if_false, Bool.and_true, Bool.true_and], by unfold chk whoseOK; simp only [c_3, c_8, c_13, c_18, Bool.and_false, Bool.false_and, Bool.false_eq_true, if_false, Bool.and_true, Bool.true_and]; rfl, rfl⟩) dX9_whose_51
        · refine lv_iload hE.x hE.b dX9_whose_35 (lv_at hl 5 rfl) ?_
          refine lv_iload hE.x hE.b dX9_whose_37 (lv_at hl 6 rfl) ?_
          refine z_qi hB (z_cS hE hB (c_X9_isAsker l g dy sh (mW g o a F L A ++ X)) q4_174 kX9_isAsker ⟨rfl, rfl⟩ ⟨Nat.le_of_ble_eq_true rfl, Nat.le_of_ble_eq_true rfl⟩ rfl hl.1 rfl (Nat.le_of_ble_eq_true rfl) dX9_whose_39 ⟨Nat.le_of_ble_eq_true rfl, Nat.le_of_ble_eq_true rfl⟩) (fun r_21 w_22 H locs hw hB => ?_)
          obtain ⟨hr9, hw9⟩ := hw
          have hr9 := hr9.symm
          subst hr9
          have hw9 := hw9.symm
          subst hw9
          refine z_bt (b := (pIn 0 1 dy && pIn 0 1 sh)) (tgt := 52) hE dX9_whose_42 (by decide) (fun c_23 => ?_) (fun c_23 => ?_)
          · obtain ⟨tn, htn, rfl⟩ := pTown_nI c_3 (by omega)
            obtain ⟨wn, hwn, rfl⟩ := pIn_nI (hi := 20) c_8 (by omega)
            refine lv_iconst (v := nI 0) hE.x hE.b dX9_whose_52 rfl ?_
            refine lv_istore (lv' := [(7, .int (nI 0)), (0, .ref o), (1, .int (nI tn)), (2, .int (nI wn)), (3, .int ac), (4, .int dd), (5, .int dy), (6, .int sh)]) hE.x hE.b dX9_whose_53 hl (by decide) rfl (fun ls hl => ?_)
            refine lv_aload_n hE.x hE.b dX9_whose_55 rfl (lv_at hl 1 rfl) ?_
            refine lv_iload_n hE.x hE.b dX9_whose_56 rfl (lv_at hl 2 rfl) ?_
            refine z_qv hB (z_cV hE hB (c_X9_layFar l g o a F L A X T C V U tn hn (by omega)) q4_197 kX9_layFar ⟨rfl, rfl⟩ ⟨Nat.le_of_ble_eq_true rfl, Nat.le_of_ble_eq_true rfl⟩ 0 rfl rfl rfl hl.1 rfl (Nat.le_of_ble_eq_true rfl) dX9_whose_57 ⟨Nat.le_of_ble_eq_true rfl, Nat.le_of_ble_eq_true rfl⟩) (fun w_25 H locs hw hB => ?_)
            obtain ⟨f1_26, hw9, hf_27⟩ := hw
            have hw9 := hw9.symm
            subst hw9
            refine lv_iconst (v := nI 0) hE.x hE.b dX9_whose_60 rfl ?_
            refine lv_istore (lv' := [(8, .int (nI 0)), (7, .int (nI 0)), (0, .ref o), (1, .int (nI tn)), (2, .int (nI wn)), (3, .int ac), (4, .int dd), (5, .int dy), (6, .int sh)]) hE.x hE.b dX9_whose_61 hl (by decide) rfl (fun ls hl => ?_)
            have k63 : ∀ (fu : Nat) (b : Nat) (k : Nat) (F1 : Nat → Int32) (H : Heap) (locs : List Loc) (ls : Array Slot), T - k < fu → (k ≤ T) → (F1 16 = F 16) → (b = rdB (whP (A 0) T C tn wn ac dd dy sh) k) → zB g s (mW g o a F1 L (updA A 4 f1_26) ++ X) H locs → lv_has ls 9 [(8, .int (nI k)), (7, .int (nI b)), (0, .ref o), (1, .int (nI tn)), (2, .int (nI wn)), (3, .int ac), (4, .int dd), (5, .int dy), (6, .int sh)] → W p l e { frames := 6, cells := 0, slots := 0, locals := 154 } s m args below meth c H locs 0 0 (MQ below (zQi g (fun r ws => ∃ (F2 : Nat → Int32) (f1 : Nat → Int32), r = (whoseR (A 0) T C (nI tn) (nI wn) ac dd dy sh) ∧ ws = mW g o a F2 L (updA (chk (whoseOK T (nI tn) (nI wn) ac dd dy sh) A) 4 f1) ++ X ∧ F2 16 = F 16)) args s 0 0 (zA (gz g))) (F0 m 63 ls []) := by
              intro fu
              induction fu with
              | zero => intro b k F1 H locs ls hfu hk h16 hb hB hl; exact absurd hfu (Nat.not_lt_zero _)
              | succ fu ih63 =>
                intro b k F1 H locs ls hfu hk h16 hb hB hl
                refine lv_iload hE.x hE.b dX9_whose_63 (lv_at hl 0 rfl) ?_
                refine lv_aload_n hE.x hE.b dX9_whose_65 rfl (lv_at hl 2 rfl) ?_
                refine z_qi hB (z_cV hE hB (c_X9_towns l g o a F1 L (updA A 4 f1_26) X T hT) q4_76 kX9_towns ⟨rfl, rfl⟩ ⟨Nat.le_of_ble_eq_true rfl, Nat.le_of_ble_eq_true rfl⟩ 0 rfl rfl rfl hl.1 rfl (Nat.le_of_ble_eq_true rfl) dX9_whose_66 ⟨Nat.le_of_ble_eq_true rfl, Nat.le_of_ble_eq_true rfl⟩) (fun r_28 w_29 H locs hw hB => ?_)
                obtain ⟨hr9, hw9⟩ := hw
                have hr9 := hr9.symm
                subst hr9
                have hw9 := hw9.symm
                subst hw9
                refine z_ge (tgt := 119) (X := ((k : Nat) : Int)) (Y := ((T : Nat) : Int)) hE dX9_whose_69 (by decide) (nI_toInt (n := k) (by omega)) (nI_toInt (n := T) (by omega)) (fun c_30 => ?_) (fun c_30 => ?_)
                · refine lv_iload hE.x hE.b dX9_whose_119 (lv_at hl 1 rfl) ?_
                  exact z_iret (v := (nI b)) (ws := mW g o a F1 L (updA A 4 f1_26) ++ X) hE hB hr (⟨F1, f1_26, by unfold whoseR whoseOK; simp only [c_3, c_8, c_13, c_18, c_23, Bool.and_true, Bool.true_and, if_true, rcl (show tn < 2 ^ 31 by omega), rcl (show wn < 2 ^ 31 by omega)]; rw [hb, show k = T by omega], by unfold chk whoseOK; simp only [c_3, c_8, c_13, c_18, c_23, Bool.and_true, Bool.true_and, if_true], h16⟩) dX9_whose_121
                · have hfk := fD_le (n := A 0) (T := T) (fr := tn) (x := k)
                  refine lv_iload hE.x hE.b dX9_whose_72 (lv_at hl 1 rfl) ?_
                  refine lv_aload_n hE.x hE.b dX9_whose_74 rfl (lv_at hl 2 rfl) ?_
                  refine z_get (v := .ref (a 4)) hE hB inX9 0 rfl rfl 12 (by decide) q4_13 (fun _ h9 => h9) rfl dX9_whose_75 ?_
                  refine lv_iload hE.x hE.b dX9_whose_78 (lv_at hl 0 rfl) ?_
                  refine z_iald (k := k) (f := f1_26) hE hB 5 rfl (by omega) (by decide) dX9_whose_80 ?_
                  refine z_top (y := (nI (fD (A 0) T tn k))) (hf_27 k (by omega)) ?_
                  refine lv_iload_n hE.x hE.b dX9_whose_81 rfl (lv_at hl 4 rfl) ?_
                  refine z_gt (tgt := 109) (X := (((fD (A 0) T tn k) : Nat) : Int)) (Y := ((wn : Nat) : Int)) hE dX9_whose_82 (by decide) (nI_toInt (n := (fD (A 0) T tn k)) (by omega)) (nI_toInt (n := wn) (by omega)) (fun c_31 => ?_) (fun c_31 => ?_)
                  · refine lv_iconst (v := nI 0) hE.x hE.b dX9_whose_109 rfl ?_
                    refine lv_ior hE.x hE.b dX9_whose_110 ?_
                    refine z_top (y := (nI (b ||| 0))) (or_nI _ _) ?_
                    refine lv_istore (lv' := [(7, .int (nI (b ||| 0))), (8, .int (nI k)), (0, .ref o), (1, .int (nI tn)), (2, .int (nI wn)), (3, .int ac), (4, .int dd), (5, .int dy), (6, .int sh)]) hE.x hE.b dX9_whose_111 hl (by decide) rfl (fun ls hl => ?_)
                    refine lv_iinc (v := (nI (k + 1))) (lv' := [(8, .int (nI (k + 1))), (7, .int (nI (b ||| 0))), (0, .ref o), (1, .int (nI tn)), (2, .int (nI wn)), (3, .int ac), (4, .int dd), (5, .int dy), (6, .int sh)]) hE.x hE.b dX9_whose_113 hl (k := 1) rfl (nI_add _ _) (by decide) rfl (fun ls hl => ?_)
                    refine lv_goto (tgt := 63) hE.x hE.b dX9_whose_116 (by decide) ?_
                    exact ih63 (b ||| 0) (k + 1) F1 _ _ _ (by omega) (by omega) h16 (rdB_yf hb (by unfold whP; rw [decide_eq_false (by omega)]; rfl)) hB hl
                  · refine lv_aload_n hE.x hE.b dX9_whose_85 rfl (lv_at hl 2 rfl) ?_
                    refine lv_iload hE.x hE.b dX9_whose_86 (lv_at hl 0 rfl) ?_
                    refine lv_iload_n hE.x hE.b dX9_whose_88 rfl (lv_at hl 5 rfl) ?_
                    refine lv_iload hE.x hE.b dX9_whose_89 (lv_at hl 6 rfl) ?_
                    refine lv_iload hE.x hE.b dX9_whose_91 (lv_at hl 7 rfl) ?_
                    refine lv_iload hE.x hE.b dX9_whose_93 (lv_at hl 8 rfl) ?_
                    refine lv_iconst (v := nI 0) hE.x hE.b dX9_whose_95 rfl ?_
                    refine z_qi hB (z_cV hE hB (c_X9_isAllowed l g o a F1 L (updA A 4 f1_26) X C k ac dd dy sh 0 hC (by omega) (by omega) (by omega)) q4_207 kX9_isAllowed ⟨rfl, rfl⟩ ⟨Nat.le_of_ble_eq_true rfl, Nat.le_of_ble_eq_true rfl⟩ 0 rfl rfl rfl hl.1 rfl (Nat.le_of_ble_eq_true rfl) dX9_whose_96 ⟨Nat.le_of_ble_eq_true rfl, Nat.le_of_ble_eq_true rfl⟩) (fun r_32 w_33 H locs hw hB => ?_)
                    obtain ⟨F1_34, hr9, hw9, hf_35⟩ := hw
                    have hr9 := hr9.symm
                    subst hr9
                    have hw9 := hw9.symm
                    subst hw9
                    have h16 := hf_35.trans h16
                    refine z_bf (b := (isA (A 0) C k ac dd dy sh 0)) (tgt := 109) hE dX9_whose_99 (by decide) (fun c_36 => ?_) (fun c_36 => ?_)
                    · refine lv_iconst (v := nI 0) hE.x hE.b dX9_whose_109 rfl ?_
                      refine lv_ior hE.x hE.b dX9_whose_110 ?_
                      refine z_top (y := (nI (b ||| 0))) (or_nI _ _) ?_
                      refine lv_istore (lv' := [(7, .int (nI (b ||| 0))), (8, .int (nI k)), (0, .ref o), (1, .int (nI tn)), (2, .int (nI wn)), (3, .int ac), (4, .int dd), (5, .int dy), (6, .int sh)]) hE.x hE.b dX9_whose_111 hl (by decide) rfl (fun ls hl => ?_)
                      refine lv_iinc (v := (nI (k + 1))) (lv' := [(8, .int (nI (k + 1))), (7, .int (nI (b ||| 0))), (0, .ref o), (1, .int (nI tn)), (2, .int (nI wn)), (3, .int ac), (4, .int dd), (5, .int dy), (6, .int sh)]) hE.x hE.b dX9_whose_113 hl (k := 1) rfl (nI_add _ _) (by decide) rfl (fun ls hl => ?_)
                      refine lv_goto (tgt := 63) hE.x hE.b dX9_whose_116 (by decide) ?_
                      exact ih63 (b ||| 0) (k + 1) F1_34 _ _ _ (by omega) (by omega) h16 (rdB_yf hb (by unfold whP; rw [show isA (A 0) C k ac dd dy sh 0 = false from c_36]; exact Bool.and_false _)) hB hl
                    · refine lv_iconst (v := nI 1) hE.x hE.b dX9_whose_102 rfl ?_
                      refine lv_iload hE.x hE.b dX9_whose_103 (lv_at hl 0 rfl) ?_
                      refine lv_ishl hE.x hE.b dX9_whose_105 ?_
                      refine z_top (y := (nI (2 ^ k))) (shl_8 k (by omega)) ?_
                      refine lv_goto (tgt := 110) hE.x hE.b dX9_whose_106 (by decide) ?_
                      refine lv_ior hE.x hE.b dX9_whose_110 ?_
                      refine z_top (y := (nI (b ||| (2 ^ k)))) (or_nI _ _) ?_
                      refine lv_istore (lv' := [(7, .int (nI (b ||| (2 ^ k)))), (8, .int (nI k)), (0, .ref o), (1, .int (nI tn)), (2, .int (nI wn)), (3, .int ac), (4, .int dd), (5, .int dy), (6, .int sh)]) hE.x hE.b dX9_whose_111 hl (by decide) rfl (fun ls hl => ?_)
                      refine lv_iinc (v := (nI (k + 1))) (lv' := [(8, .int (nI (k + 1))), (7, .int (nI (b ||| (2 ^ k)))), (0, .ref o), (1, .int (nI tn)), (2, .int (nI wn)), (3, .int ac), (4, .int dd), (5, .int dy), (6, .int sh)]) hE.x hE.b dX9_whose_113 hl (k := 1) rfl (nI_add _ _) (by decide) rfl (fun ls hl => ?_)
                      refine lv_goto (tgt := 63) hE.x hE.b dX9_whose_116 (by decide) ?_
                      exact ih63 (b ||| (2 ^ k)) (k + 1) F1_34 _ _ _ (by omega) (by omega) h16 (rdB_y hb (by unfold whP; rw [show isA (A 0) C k ac dd dy sh 0 = true from c_36, decide_eq_true (by omega)]; rfl)) hB hl
            exact k63 (T - 0 + 1) 0 0 F _ _ _ (Nat.lt_succ_self _) (by omega) h16 rfl hB hl
          · refine lv_aload_n hE.x hE.b dX9_whose_45 rfl (lv_at hl 0 rfl) ?_
            refine lv_bipush (v := (-2)) hE.x hE.b dX9_whose_46 rfl ?_
            refine z_qi hB (z_cV hE hB (c_X9_bad l g o a F L A X (-2)) q4_91 kX9_bad ⟨rfl, rfl⟩ ⟨Nat.le_of_ble_eq_true rfl, Nat.le_of_ble_eq_true rfl⟩ 0 rfl rfl rfl hl.1 rfl (Nat.le_of_ble_eq_true rfl) dX9_whose_48 ⟨Nat.le_of_ble_eq_true rfl, Nat.le_of_ble_eq_true rfl⟩) (fun r_37 w_38 H locs hw hB => ?_)
            obtain ⟨hr9, hw9⟩ := hw
            have hr9 := hr9.symm
            subst hr9
            have hw9 := hw9.symm
            subst hw9
            exact z_iret (v := (-2)) (ws := mW g o a F L (bump 0 A) ++ X) hE hB hr (⟨F, A 4, by unfold whoseR whoseOK; simp only [c_3, c_8, c_13, c_18, c_23, Bool.and_false, Bool.false_and, Bool.false_eq_true, if_false, Bool.and_true, Bool.true_and], by unfold chk whoseOK; simp only [c_3, c_8, c_13, c_18, c_23, Bool.and_false, Bool.false_and, Bool.false_eq_true, if_false, Bool.and_true, Bool.true_and]; rfl, rfl⟩) dX9_whose_51

set_option maxHeartbeats 4000000 in
set_option maxRecDepth 100000 in
theorem c_X9_fraction (l : Launch) (g : zG) (o : Nat) (a : Nat → Nat) (F : Nat → Int32) (L : Nat → Int64) (A : Nat → Nat → Int32) (X : va_W) (u : Nat) (v : Nat) (hu : u ≤ 60) (hv : v ≤ 60) (hv0 : 0 < v) : Met l yX9_fraction (Cond.code yX9_fraction cX9_fraction 6 none :: TBL) { frames := 0, cells := 0, slots := 0, locals := 0 } (zPc [.ref o, .int (nI u), .int (nI v)] g (mW g o a F L A ++ X)) (zQv g (fun ws => ws = mW g o a F (vp_updL (vp_updL L 4 (lN (u / Nat.gcd u v))) 5 (lN (v / Nat.gcd u v))) A ++ X)) 0 0 (zA (gz g)) := by
  refine z_start (by decide +kernel) rfl (Nat.le_of_ble_eq_true rfl) ?_
  intro p e s m args below meth c ls hE hr hnm hB hl
  have hl : lv_has ls 6 [(0, .ref o), (1, .int (nI u)), (2, .int (nI v))] := hl
  revert hB
  generalize s.heap = H
  generalize ([] : List Loc) = locs
  intro hB
  refine lv_iload_n hE.x hE.b dX9_fraction_0 rfl (lv_at hl 1 rfl) ?_
  refine lv_istore_n (lv' := [(3, .int (nI u)), (0, .ref o), (1, .int (nI u)), (2, .int (nI v))]) hE.x hE.b dX9_fraction_1 rfl hl (by decide) rfl (fun ls hl => ?_)
  refine lv_iload_n hE.x hE.b dX9_fraction_2 rfl (lv_at hl 3 rfl) ?_
  refine lv_istore (lv' := [(4, .int (nI v)), (3, .int (nI u)), (0, .ref o), (1, .int (nI u)), (2, .int (nI v))]) hE.x hE.b dX9_fraction_3 hl (by decide) rfl (fun ls hl => ?_)
  have k5 : ∀ (fu : Nat) (x : Nat) (y : Nat) (H : Heap) (locs : List Loc) (ls : Array Slot), y < fu → (x ≤ 60) → (y ≤ 60) → (Nat.gcd x y = Nat.gcd u v) → zB g s (mW g o a F L A ++ X) H locs → lv_has ls 6 [(4, .int (nI y)), (3, .int (nI x)), (0, .ref o), (1, .int (nI u)), (2, .int (nI v))] → W p l e { frames := 0, cells := 0, slots := 0, locals := 0 } s m args below meth c H locs 0 0 (MQ below (zQv g (fun ws => ws = mW g o a F (vp_updL (vp_updL L 4 (lN (u / Nat.gcd u v))) 5 (lN (v / Nat.gcd u v))) A ++ X)) args s 0 0 (zA (gz g))) (F0 m 5 ls []) := by
    intro fu
    induction fu with
    | zero => intro x y H locs ls hfu hx hy hg hB hl; exact absurd hfu (Nat.not_lt_zero _)
    | succ fu ih5 =>
      intro x y H locs ls hfu hx hy hg hB hl
      refine lv_iload hE.x hE.b dX9_fraction_5 (lv_at hl 0 rfl) ?_
      refine z_eq0 (tgt := 26) (X := ((y : Nat) : Int)) hE dX9_fraction_7 (by decide) (nI_toInt (n := y) (by omega)) (fun c_1 => ?_) (fun c_1 => ?_)
      · have hy0 : y = 0 := by omega
        have hxg : x = Nat.gcd u v := by rw [← hg, hy0, Nat.gcd_zero_right]
        have hg0 : 0 < Nat.gcd u v := Nat.gcd_pos_of_pos_right u hv0
        have hdu := Nat.div_le_self u x
        have hdv := Nat.div_le_self v x
        refine lv_aload_n hE.x hE.b dX9_fraction_26 rfl (lv_at hl 2 rfl) ?_
        refine lv_iload_n hE.x hE.b dX9_fraction_27 rfl (lv_at hl 3 rfl) ?_
        refine lv_iload_n hE.x hE.b dX9_fraction_28 rfl (lv_at hl 1 rfl) ?_
        refine lv_idiv hE.x hE.b dX9_fraction_29 (nI_ne0 (by omega) (by omega)) ?_
        refine z_top (y := (nI (u / x))) (pk_div (by omega) (by omega) (by omega)) ?_
        refine lv_i2l (v := lN (u / x)) hE.x hE.b dX9_fraction_30 (nI_l (by omega)) ?_
        refine z_put (v := .long (lN (u / x))) (ty := .long) (ws' := mW g o a F (vp_updL L 4 (lN (u / x))) A ++ X) hE hB inX9 tyX9 tyX9_ok nmX9 0 rfl rfl 4 (by decide) q4_5 (fun _ h9 => h9) rfl (by decide +kernel) rfl rfl (Nat.le_of_ble_eq_true rfl) rfl dX9_fraction_31 (fun H locs hB => ?_)
        refine lv_aload_n hE.x hE.b dX9_fraction_34 rfl (lv_at hl 2 rfl) ?_
        refine lv_iload_n hE.x hE.b dX9_fraction_35 rfl (lv_at hl 4 rfl) ?_
        refine lv_iload_n hE.x hE.b dX9_fraction_36 rfl (lv_at hl 1 rfl) ?_
        refine lv_idiv hE.x hE.b dX9_fraction_37 (nI_ne0 (by omega) (by omega)) ?_
        refine z_top (y := (nI (v / x))) (pk_div (by omega) (by omega) (by omega)) ?_
        refine lv_i2l (v := lN (v / x)) hE.x hE.b dX9_fraction_38 (nI_l (by omega)) ?_
        refine z_put (v := .long (lN (v / x))) (ty := .long) (ws' := mW g o a F (vp_updL (vp_updL L 4 (lN (u / x))) 5 (lN (v / x))) A ++ X) hE hB inX9 tyX9 tyX9_ok nmX9 0 rfl rfl 5 (by decide) q4_6 (fun _ h9 => h9) rfl (by decide +kernel) rfl rfl (Nat.le_of_ble_eq_true rfl) rfl dX9_fraction_39 (fun H locs hB => ?_)
        exact z_vret (ws := mW g o a F (vp_updL (vp_updL L 4 (lN (u / x))) 5 (lN (v / x))) A ++ X) hE hB hr (by rw [hxg]) dX9_fraction_42
      · have hyl : x % y < y := Nat.mod_lt _ (by omega)
        refine lv_iload_n hE.x hE.b dX9_fraction_10 rfl (lv_at hl 1 rfl) ?_
        refine lv_iload hE.x hE.b dX9_fraction_11 (lv_at hl 0 rfl) ?_
        refine lv_irem hE.x hE.b dX9_fraction_13 (nI_ne0 (by omega) (by omega)) ?_
        refine z_top (y := (nI (x % y))) (pk_rem (by omega) (by omega) (by omega)) ?_
        refine lv_istore (lv' := [(5, .int (nI (x % y))), (4, .int (nI y)), (3, .int (nI x)), (0, .ref o), (1, .int (nI u)), (2, .int (nI v))]) hE.x hE.b dX9_fraction_14 hl (by decide) rfl (fun ls hl => ?_)
        refine lv_iload hE.x hE.b dX9_fraction_16 (lv_at hl 1 rfl) ?_
        refine lv_istore_n (lv' := [(3, .int (nI y)), (5, .int (nI (x % y))), (4, .int (nI y)), (0, .ref o), (1, .int (nI u)), (2, .int (nI v))]) hE.x hE.b dX9_fraction_18 rfl hl (by decide) rfl (fun ls hl => ?_)
        refine lv_iload hE.x hE.b dX9_fraction_19 (lv_at hl 1 rfl) ?_
        refine lv_istore (lv' := [(4, .int (nI (x % y))), (3, .int (nI y)), (5, .int (nI (x % y))), (0, .ref o), (1, .int (nI u)), (2, .int (nI v))]) hE.x hE.b dX9_fraction_21 hl (by decide) rfl (fun ls hl => ?_)
        refine lv_goto (tgt := 5) hE.x hE.b dX9_fraction_23 (by decide) ?_
        exact ih5 y (x % y) _ _ _ (by omega) (by omega) (by omega) (gcd_st hg) hB (lv_sub hl [0, 1, 3, 4, 5] rfl)
  exact k5 (v + 1) u v _ _ _ (Nat.lt_succ_self _) (by omega) (by omega) rfl hB hl

set_option maxHeartbeats 4000000 in
set_option maxRecDepth 100000 in
theorem c_X9_odds (l : Launch) (g : zG) (o : Nat) (a : Nat → Nat) (F : Nat → Int32) (L : Nat → Int64) (A : Nat → Nat → Int32) (X : va_W) (T : Nat) (C : Nat) (V : Nat) (U : Nat) (tw : Int32) (ac : Int32) (da : Int32) (db : Int32) (dy : Int32) (sh : Int32) (hn : nOK (A 0) T C V U) : Met l yX9_odds (Cond.code yX9_odds cX9_odds 9 (some .int) :: TBL) { frames := 6, cells := 0, slots := 0, locals := 154 } (zPc [.ref o, .int tw, .int ac, .int da, .int db, .int dy, .int sh] g (mW g o a F L A ++ X)) (zQi g (fun r ws => ∃ (F1 : Nat → Int32), r = (if oddsOK T tw ac da db dy sh = true then nI 1 else (-2)) ∧ ws = mW g o a F1 (oddsL (A 0) L T C tw ac da db dy sh) (chk (oddsOK T tw ac da db dy sh) A) ++ X ∧ F1 16 = F 16)) 0 0 (zA (gz g)) := by
  refine z_start (by decide +kernel) rfl (Nat.le_of_ble_eq_true rfl) ?_
  intro p e s m args below meth c ls hE hr hnm hB hl
  have hl : lv_has ls 9 [(0, .ref o), (1, .int tw), (2, .int ac), (3, .int da), (4, .int db), (5, .int dy), (6, .int sh)] := hl
  revert hB
  generalize s.heap = H
  generalize ([] : List Loc) = locs
  intro hB
  have hT := hn.T
  have hT6 := hn.T6
  have hC := hn.C
  have hC8 := hn.C8
  have hV := hn.V
  have hV8 := hn.V8
  have hU := hn.U
  have hU8 := hn.U8
  have h16 : F 16 = F 16 := rfl
  refine lv_aload_n hE.x hE.b dX9_odds_0 rfl (lv_at hl 0 rfl) ?_
  refine lv_iload_n hE.x hE.b dX9_odds_1 rfl (lv_at hl 1 rfl) ?_
  refine z_qi hB (z_cV hE hB (c_X9_isTown l g o a F L A X T tw hT (by omega)) q4_106 kX9_isTown ⟨rfl, rfl⟩ ⟨Nat.le_of_ble_eq_true rfl, Nat.le_of_ble_eq_true rfl⟩ 0 rfl rfl rfl hl.1 rfl (Nat.le_of_ble_eq_true rfl) dX9_odds_2 ⟨Nat.le_of_ble_eq_true rfl, Nat.le_of_ble_eq_true rfl⟩) (fun r_1 w_2 H locs hw hB => ?_)
  obtain ⟨hr9, hw9⟩ := hw
  have hr9 := hr9.symm
  subst hr9
  have hw9 := hw9.symm
  subst hw9
  refine z_bf (b := (pTown T tw)) (tgt := 46) hE dX9_odds_5 (by decide) (fun c_3 => ?_) (fun c_3 => ?_)
  · refine lv_aload_n hE.x hE.b dX9_odds_46 rfl (lv_at hl 0 rfl) ?_
    refine lv_bipush (v := (-2)) hE.x hE.b dX9_odds_47 rfl ?_
    refine z_qi hB (z_cV hE hB (c_X9_bad l g o a F L A X (-2)) q4_91 kX9_bad ⟨rfl, rfl⟩ ⟨Nat.le_of_ble_eq_true rfl, Nat.le_of_ble_eq_true rfl⟩ 0 rfl rfl rfl hl.1 rfl (Nat.le_of_ble_eq_true rfl) dX9_odds_49 ⟨Nat.le_of_ble_eq_true rfl, Nat.le_of_ble_eq_true rfl⟩) (fun r_4 w_5 H locs hw hB => ?_)
    obtain ⟨hr9, hw9⟩ := hw
    have hr9 := hr9.symm
    subst hr9
    have hw9 := hw9.symm
    subst hw9
    exact z_iret (v := (-2)) (ws := mW g o a F L (bump 0 A) ++ X) hE hB hr (⟨F, by unfold oddsOK; simp only [c_3, Bool.and_false, Bool.false_and, Bool.false_eq_true, if_false, Bool.and_true, Bool.true_and], by unfold oddsL chk oddsOK; simp only [c_3, Bool.and_false, Bool.false_and, Bool.false_eq_true, if_false, Bool.and_true, Bool.true_and], rfl⟩) dX9_odds_52
  · refine lv_iload_n hE.x hE.b dX9_odds_8 rfl (lv_at hl 2 rfl) ?_
    refine z_qi hB (z_cS hE hB (c_X9_isAct l g ac (mW g o a F L A ++ X)) q4_119 kX9_isAct ⟨rfl, rfl⟩ ⟨Nat.le_of_ble_eq_true rfl, Nat.le_of_ble_eq_true rfl⟩ rfl hl.1 rfl (Nat.le_of_ble_eq_true rfl) dX9_odds_9 ⟨Nat.le_of_ble_eq_true rfl, Nat.le_of_ble_eq_true rfl⟩) (fun r_6 w_7 H locs hw hB => ?_)
    obtain ⟨hr9, hw9⟩ := hw
    have hr9 := hr9.symm
    subst hr9
    have hw9 := hw9.symm
    subst hw9
    refine z_bf (b := (pIn 0 5 ac)) (tgt := 46) hE dX9_odds_12 (by decide) (fun c_8 => ?_) (fun c_8 => ?_)
    · refine lv_aload_n hE.x hE.b dX9_odds_46 rfl (lv_at hl 0 rfl) ?_
      refine lv_bipush (v := (-2)) hE.x hE.b dX9_odds_47 rfl ?_
      refine z_qi hB (z_cV hE hB (c_X9_bad l g o a F L A X (-2)) q4_91 kX9_bad ⟨rfl, rfl⟩ ⟨Nat.le_of_ble_eq_true rfl, Nat.le_of_ble_eq_true rfl⟩ 0 rfl rfl rfl hl.1 rfl (Nat.le_of_ble_eq_true rfl) dX9_odds_49 ⟨Nat.le_of_ble_eq_true rfl, Nat.le_of_ble_eq_true rfl⟩) (fun r_9 w_10 H locs hw hB => ?_)
      obtain ⟨hr9, hw9⟩ := hw
      have hr9 := hr9.symm
      subst hr9
      have hw9 := hw9.symm
      subst hw9
      exact z_iret (v := (-2)) (ws := mW g o a F L (bump 0 A) ++ X) hE hB hr (⟨F, by unfold oddsOK; simp only [c_3, c_8, Bool.and_false, Bool.false_and, Bool.false_eq_true, if_false, Bool.and_true, Bool.true_and], by unfold oddsL chk oddsOK; simp only [c_3, c_8, Bool.and_false, Bool.false_and, Bool.false_eq_true, if_false, Bool.and_true, Bool.true_and], rfl⟩) dX9_odds_52
    · refine lv_iload_n hE.x hE.b dX9_odds_15 rfl (lv_at hl 3 rfl) ?_
      refine z_qi hB (z_cS hE hB (c_X9_isDay l g da (mW g o a F L A ++ X)) q4_170 kX9_isDay ⟨rfl, rfl⟩ ⟨Nat.le_of_ble_eq_true rfl, Nat.le_of_ble_eq_true rfl⟩ rfl hl.1 rfl (Nat.le_of_ble_eq_true rfl) dX9_odds_16 ⟨Nat.le_of_ble_eq_true rfl, Nat.le_of_ble_eq_true rfl⟩) (fun r_11 w_12 H locs hw hB => ?_)
      obtain ⟨hr9, hw9⟩ := hw
      have hr9 := hr9.symm
      subst hr9
      have hw9 := hw9.symm
      subst hw9
      refine z_bf (b := (pIn 0 59 da)) (tgt := 46) hE dX9_odds_19 (by decide) (fun c_13 => ?_) (fun c_13 => ?_)
      · refine lv_aload_n hE.x hE.b dX9_odds_46 rfl (lv_at hl 0 rfl) ?_
        refine lv_bipush (v := (-2)) hE.x hE.b dX9_odds_47 rfl ?_
        refine z_qi hB (z_cV hE hB (c_X9_bad l g o a F L A X (-2)) q4_91 kX9_bad ⟨rfl, rfl⟩ ⟨Nat.le_of_ble_eq_true rfl, Nat.le_of_ble_eq_true rfl⟩ 0 rfl rfl rfl hl.1 rfl (Nat.le_of_ble_eq_true rfl) dX9_odds_49 ⟨Nat.le_of_ble_eq_true rfl, Nat.le_of_ble_eq_true rfl⟩) (fun r_14 w_15 H locs hw hB => ?_)
        obtain ⟨hr9, hw9⟩ := hw
        have hr9 := hr9.symm
        subst hr9
        have hw9 := hw9.symm
        subst hw9
        exact z_iret (v := (-2)) (ws := mW g o a F L (bump 0 A) ++ X) hE hB hr (⟨F, by unfold oddsOK; simp only [c_3, c_8, c_13, Bool.and_false, Bool.false_and, Bool.false_eq_true, if_false, Bool.and_true, Bool.true_and], by unfold oddsL chk oddsOK; simp only [c_3, c_8, c_13, Bool.and_false, Bool.false_and, Bool.false_eq_true, if_false, Bool.and_true, Bool.true_and], rfl⟩) dX9_odds_52
      · refine lv_iload hE.x hE.b dX9_odds_22 (lv_at hl 4 rfl) ?_
        refine z_qi hB (z_cS hE hB (c_X9_isDay l g db (mW g o a F L A ++ X)) q4_170 kX9_isDay ⟨rfl, rfl⟩ ⟨Nat.le_of_ble_eq_true rfl, Nat.le_of_ble_eq_true rfl⟩ rfl hl.1 rfl (Nat.le_of_ble_eq_true rfl) dX9_odds_24 ⟨Nat.le_of_ble_eq_true rfl, Nat.le_of_ble_eq_true rfl⟩) (fun r_16 w_17 H locs hw hB => ?_)
        obtain ⟨hr9, hw9⟩ := hw
        have hr9 := hr9.symm
        subst hr9
        have hw9 := hw9.symm
        subst hw9
        refine z_bf (b := (pIn 0 59 db)) (tgt := 46) hE dX9_odds_27 (by decide) (fun c_18 => ?_) (fun c_18 => ?_)
        · refine lv_aload_n hE.x hE.b dX9_odds_46 rfl (lv_at hl 0 rfl) ?_
          refine lv_bipush (v := (-2)) hE.x hE.b dX9_odds_47 rfl ?_
          refine z_qi hB (z_cV hE hB (c_X9_bad l g o a F L A X (-2)) q4_91 kX9_bad ⟨rfl, rfl⟩ ⟨Nat.le_of_ble_eq_true rfl, Nat.le_of_ble_eq_true rfl⟩ 0 rfl rfl rfl hl.1 rfl (Nat.le_of_ble_eq_true rfl) dX9_odds_49 ⟨Nat.le_of_ble_eq_true rfl, Nat.le_of_ble_eq_true rfl⟩) (fun r_19 w_20 H locs hw hB => ?_)
          obtain ⟨hr9, hw9⟩ := hw
          have hr9 := hr9.symm
          subst hr9
          have hw9 := hw9.symm
          subst hw9
          exact z_iret (v := (-2)) (ws := mW g o a F L (bump 0 A) ++ X) hE hB hr (⟨F, by unfold oddsOK; simp only [c_3, c_8, c_13, c_18, Bool.and_false, Bool.false_and, Bool.false_eq_true, if_false, Bool.and_true, Bool.true_and], by unfold oddsL chk oddsOK; simp only [c_3, c_8, c_13, c_18, Bool.and_false, Bool.false_and, Bool.false_eq_true, if_false, Bool.and_true, Bool.true_and], rfl⟩) dX9_odds_52
        · refine lv_iload_n hE.x hE.b dX9_odds_30 rfl (lv_at hl 3 rfl) ?_
          refine lv_iload hE.x hE.b dX9_odds_31 (lv_at hl 4 rfl) ?_
          refine z_gt (tgt := 46) (X := da.toInt) (Y := db.toInt) hE dX9_odds_33 (by decide) rfl rfl (fun c_21 => ?_) (fun c_21 => ?_)
          · refine lv_aload_n hE.x hE.b dX9_odds_46 rfl (lv_at hl 0 rfl) ?_
            refine lv_bipush (v := (-2)) hE.x hE.b dX9_odds_47 rfl ?_
            refine z_qi hB (z_cV hE hB (c_X9_bad l g o a F L A X (-2)) q4_91 kX9_bad ⟨rfl, rfl⟩ ⟨Nat.le_of_ble_eq_true rfl, Nat.le_of_ble_eq_true rfl⟩ 0 rfl rfl rfl hl.1 rfl (Nat.le_of_ble_eq_true rfl) dX9_odds_49 ⟨Nat.le_of_ble_eq_true rfl, Nat.le_of_ble_eq_true rfl⟩) (fun r_22 w_23 H locs hw hB => ?_)
            obtain ⟨hr9, hw9⟩ := hw
            have hr9 := hr9.symm
            subst hr9
            have hw9 := hw9.symm
            subst hw9
            exact z_iret (v := (-2)) (ws := mW g o a F L (bump 0 A) ++ X) hE hB hr (⟨F, by unfold oddsOK; simp only [c_3, c_8, c_13, c_18, decide_eq_false (show ¬ da.toInt ≤ db.toInt by omega), Bool.and_false, Bool.false_and, Bool.false_eq_true, if_false, Bool.and_true, Bool.true_and], by unfold oddsL chk oddsOK; simp only [c_3, c_8, c_13, c_18, decide_eq_false (show ¬ da.toInt ≤ db.toInt by omega), Bool.and_false, Bool.false_and, Bool.false_eq_true, if_false, Bool.and_true, Bool.true_and], rfl⟩) dX9_odds_52
          · refine lv_iload hE.x hE.b dX9_odds_36 (lv_at hl 5 rfl) ?_
            refine lv_iload hE.x hE.b dX9_odds_38 (lv_at hl 6 rfl) ?_
            refine z_qi hB (z_cS hE hB (c_X9_isAsker l g dy sh (mW g o a F L A ++ X)) q4_174 kX9_isAsker ⟨rfl, rfl⟩ ⟨Nat.le_of_ble_eq_true rfl, Nat.le_of_ble_eq_true rfl⟩ rfl hl.1 rfl (Nat.le_of_ble_eq_true rfl) dX9_odds_40 ⟨Nat.le_of_ble_eq_true rfl, Nat.le_of_ble_eq_true rfl⟩) (fun r_24 w_25 H locs hw hB => ?_)
            obtain ⟨hr9, hw9⟩ := hw
            have hr9 := hr9.symm
            subst hr9
            have hw9 := hw9.symm
            subst hw9
            refine z_bt (b := (pIn 0 1 dy && pIn 0 1 sh)) (tgt := 53) hE dX9_odds_43 (by decide) (fun c_26 => ?_) (fun c_26 => ?_)
            · obtain ⟨tn, htn, rfl⟩ := pTown_nI c_3 (by omega)
              obtain ⟨an, han, rfl⟩ := pIn_nI (hi := 59) c_13 (by omega)
              obtain ⟨bn, hbn, rfl⟩ := pIn_nI (hi := 59) c_18 (by omega)
              refine lv_iconst (v := nI 0) hE.x hE.b dX9_odds_53 rfl ?_
              have hab : an ≤ bn := by have h7 := c_21; rw [nI_toInt (show an < 2 ^ 31 by omega), nI_toInt (show bn < 2 ^ 31 by omega)] at h7; omega
              refine lv_istore (lv' := [(7, .int (nI 0)), (0, .ref o), (1, .int (nI tn)), (2, .int ac), (3, .int (nI an)), (4, .int (nI bn)), (5, .int dy), (6, .int sh)]) hE.x hE.b dX9_odds_54 hl (by decide) rfl (fun ls hl => ?_)
              refine lv_iload_n hE.x hE.b dX9_odds_56 rfl (lv_at hl 4 rfl) ?_
              refine lv_istore (lv' := [(8, .int (nI an)), (7, .int (nI 0)), (0, .ref o), (1, .int (nI tn)), (2, .int ac), (3, .int (nI an)), (4, .int (nI bn)), (5, .int dy), (6, .int sh)]) hE.x hE.b dX9_odds_57 hl (by decide) rfl (fun ls hl => ?_)
              have k59 : ∀ (fu : Nat) (v : Nat) (k : Nat) (F1 : Nat → Int32) (H : Heap) (locs : List Loc) (ls : Array Slot), bn + 1 - (an + k) < fu → (an + k ≤ bn + 1) → (F1 16 = F 16) → (v = cn (odP (A 0) C tn ac an dy sh) k) → zB g s (mW g o a F1 L A ++ X) H locs → lv_has ls 9 [(8, .int (nI (an + k))), (7, .int (nI v)), (0, .ref o), (1, .int (nI tn)), (2, .int ac), (3, .int (nI an)), (4, .int (nI bn)), (5, .int dy), (6, .int sh)] → W p l e { frames := 6, cells := 0, slots := 0, locals := 154 } s m args below meth c H locs 0 0 (MQ below (zQi g (fun r ws => ∃ (F1 : Nat → Int32), r = (if oddsOK T (nI tn) ac (nI an) (nI bn) dy sh = true then nI 1 else (-2)) ∧ ws = mW g o a F1 (oddsL (A 0) L T C (nI tn) ac (nI an) (nI bn) dy sh) (chk (oddsOK T (nI tn) ac (nI an) (nI bn) dy sh) A) ++ X ∧ F1 16 = F 16)) args s 0 0 (zA (gz g))) (F0 m 59 ls []) := by
                intro fu
                induction fu with
                | zero => intro v k F1 H locs ls hfu hk h16 hv hB hl; exact absurd hfu (Nat.not_lt_zero _)
                | succ fu ih59 =>
                  intro v k F1 H locs ls hfu hk h16 hv hB hl
                  refine lv_iload hE.x hE.b dX9_odds_59 (lv_at hl 0 rfl) ?_
                  refine lv_iload hE.x hE.b dX9_odds_61 (lv_at hl 6 rfl) ?_
                  refine z_gt (tgt := 98) (X := (((an + k) : Nat) : Int)) (Y := ((bn : Nat) : Int)) hE dX9_odds_63 (by decide) (nI_toInt (n := (an + k)) (by omega)) (nI_toInt (n := bn) (by omega)) (fun c_27 => ?_) (fun c_27 => ?_)
                  · have hvk := cn_le (odP (A 0) C tn ac an dy sh) k
                    refine lv_aload_n hE.x hE.b dX9_odds_98 rfl (lv_at hl 2 rfl) ?_
                    refine lv_iload hE.x hE.b dX9_odds_99 (lv_at hl 1 rfl) ?_
                    refine lv_iload hE.x hE.b dX9_odds_101 (lv_at hl 6 rfl) ?_
                    refine lv_iload_n hE.x hE.b dX9_odds_103 rfl (lv_at hl 5 rfl) ?_
                    refine z_isubN hE (by omega) dX9_odds_104 ?_
                    refine lv_iconst (v := nI 1) hE.x hE.b dX9_odds_105 rfl ?_
                    refine z_iaddN hE dX9_odds_106 ?_
                    refine z_qv hB (z_cV hE hB (c_X9_fraction l g o a F1 L A X v ((bn - an) + 1) (by omega) (by omega) (by omega)) q5_39 kX9_fraction ⟨rfl, rfl⟩ ⟨Nat.le_of_ble_eq_true rfl, Nat.le_of_ble_eq_true rfl⟩ 0 rfl rfl rfl hl.1 rfl (Nat.le_of_ble_eq_true rfl) dX9_odds_107 ⟨Nat.le_of_ble_eq_true rfl, Nat.le_of_ble_eq_true rfl⟩) (fun w_29 H locs hw hB => ?_)
                    have hw9 := hw
                    have hw9 := hw9.symm
                    subst hw9
                    refine lv_iconst (v := nI 1) hE.x hE.b dX9_odds_110 rfl ?_
                    exact z_iret (v := (nI 1)) (ws := mW g o a F1 (vp_updL (vp_updL L 4 (lN (v / Nat.gcd v ((bn - an) + 1)))) 5 (lN (((bn - an) + 1) / Nat.gcd v ((bn - an) + 1)))) A ++ X) hE hB hr (⟨F1, by unfold oddsOK; simp only [c_3, c_8, c_13, c_18, c_26, decide_eq_true (show (nI an).toInt ≤ (nI bn).toInt by rw [nI_toInt (show an < 2 ^ 31 by omega), nI_toInt (show bn < 2 ^ 31 by omega)]; omega), Bool.and_true, Bool.true_and, if_true], by unfold oddsL oddsN oddsM odV chk oddsOK; simp only [c_3, c_8, c_13, c_18, c_26, decide_eq_true (show (nI an).toInt ≤ (nI bn).toInt by rw [nI_toInt (show an < 2 ^ 31 by omega), nI_toInt (show bn < 2 ^ 31 by omega)]; omega), Bool.and_true, Bool.true_and, if_true, rcl (show tn < 2 ^ 31 by omega), rcl (show an < 2 ^ 31 by omega), rcl (show bn < 2 ^ 31 by omega)]; rw [hv, show k = bn + 1 - an by omega, show bn - an + 1 = bn + 1 - an by omega], h16⟩) dX9_odds_111
                  · have hvk := cn_le (odP (A 0) C tn ac an dy sh) k
                    refine lv_iload hE.x hE.b dX9_odds_66 (lv_at hl 1 rfl) ?_
                    refine lv_aload_n hE.x hE.b dX9_odds_68 rfl (lv_at hl 2 rfl) ?_
                    refine lv_iload_n hE.x hE.b dX9_odds_69 rfl (lv_at hl 3 rfl) ?_
                    refine lv_iload_n hE.x hE.b dX9_odds_70 rfl (lv_at hl 4 rfl) ?_
                    refine lv_iload hE.x hE.b dX9_odds_71 (lv_at hl 0 rfl) ?_
                    refine lv_iload hE.x hE.b dX9_odds_73 (lv_at hl 7 rfl) ?_
                    refine lv_iload hE.x hE.b dX9_odds_75 (lv_at hl 8 rfl) ?_
                    refine lv_iconst (v := nI 0) hE.x hE.b dX9_odds_77 rfl ?_
                    refine z_qi hB (z_cV hE hB (c_X9_isAllowed l g o a F1 L A X C tn ac (nI (an + k)) dy sh 0 hC (by omega) (by omega) (by omega)) q4_207 kX9_isAllowed ⟨rfl, rfl⟩ ⟨Nat.le_of_ble_eq_true rfl, Nat.le_of_ble_eq_true rfl⟩ 0 rfl rfl rfl hl.1 rfl (Nat.le_of_ble_eq_true rfl) dX9_odds_78 ⟨Nat.le_of_ble_eq_true rfl, Nat.le_of_ble_eq_true rfl⟩) (fun r_30 w_31 H locs hw hB => ?_)
                    obtain ⟨F1_32, hr9, hw9, hf_33⟩ := hw
                    have hr9 := hr9.symm
                    subst hr9
                    have hw9 := hw9.symm
                    subst hw9
                    have h16 := hf_33.trans h16
                    refine z_bf (b := (isA (A 0) C tn ac (nI (an + k)) dy sh 0)) (tgt := 88) hE dX9_odds_81 (by decide) (fun c_34 => ?_) (fun c_34 => ?_)
                    · refine lv_iconst (v := nI 1) hE.x hE.b dX9_odds_88 rfl ?_
                      refine z_iaddN hE dX9_odds_89 ?_
                      refine lv_istore (lv' := [(7, .int (nI (v + 1))), (8, .int (nI (an + k))), (0, .ref o), (1, .int (nI tn)), (2, .int ac), (3, .int (nI an)), (4, .int (nI bn)), (5, .int dy), (6, .int sh)]) hE.x hE.b dX9_odds_90 hl (by decide) rfl (fun ls hl => ?_)
                      refine lv_iinc (v := (nI ((an + k) + 1))) (lv' := [(8, .int (nI ((an + k) + 1))), (7, .int (nI (v + 1))), (0, .ref o), (1, .int (nI tn)), (2, .int ac), (3, .int (nI an)), (4, .int (nI bn)), (5, .int dy), (6, .int sh)]) hE.x hE.b dX9_odds_92 hl (k := 1) rfl (nI_add _ _) (by decide) rfl (fun ls hl => ?_)
                      refine lv_goto (tgt := 59) hE.x hE.b dX9_odds_95 (by decide) ?_
                      exact ih59 (v + 1) (k + 1) F1_32 _ _ _ (by omega) (by omega) h16 (by rw [cn_t (P := (odP (A 0) C tn ac an dy sh)) (by unfold odP; rw [c_34]; rfl), hv]) hB hl
                    · refine lv_iconst (v := nI 0) hE.x hE.b dX9_odds_84 rfl ?_
                      refine lv_goto (tgt := 89) hE.x hE.b dX9_odds_85 (by decide) ?_
                      refine z_iaddN hE dX9_odds_89 ?_
                      refine lv_istore (lv' := [(7, .int (nI (v + 0))), (8, .int (nI (an + k))), (0, .ref o), (1, .int (nI tn)), (2, .int ac), (3, .int (nI an)), (4, .int (nI bn)), (5, .int dy), (6, .int sh)]) hE.x hE.b dX9_odds_90 hl (by decide) rfl (fun ls hl => ?_)
                      refine lv_iinc (v := (nI ((an + k) + 1))) (lv' := [(8, .int (nI ((an + k) + 1))), (7, .int (nI (v + 0))), (0, .ref o), (1, .int (nI tn)), (2, .int ac), (3, .int (nI an)), (4, .int (nI bn)), (5, .int dy), (6, .int sh)]) hE.x hE.b dX9_odds_92 hl (k := 1) rfl (nI_add _ _) (by decide) rfl (fun ls hl => ?_)
                      refine lv_goto (tgt := 59) hE.x hE.b dX9_odds_95 (by decide) ?_
                      exact ih59 (v + 0) (k + 1) F1_32 _ _ _ (by omega) (by omega) h16 (by rw [cn_f (P := (odP (A 0) C tn ac an dy sh)) (by unfold odP; rw [c_34]; rfl), hv]; rfl) hB hl
              exact k59 (bn + 1 - (an + 0) + 1) 0 0 F _ _ _ (Nat.lt_succ_self _) (by omega) h16 rfl hB hl
            · refine lv_aload_n hE.x hE.b dX9_odds_46 rfl (lv_at hl 0 rfl) ?_
              refine lv_bipush (v := (-2)) hE.x hE.b dX9_odds_47 rfl ?_
              refine z_qi hB (z_cV hE hB (c_X9_bad l g o a F L A X (-2)) q4_91 kX9_bad ⟨rfl, rfl⟩ ⟨Nat.le_of_ble_eq_true rfl, Nat.le_of_ble_eq_true rfl⟩ 0 rfl rfl rfl hl.1 rfl (Nat.le_of_ble_eq_true rfl) dX9_odds_49 ⟨Nat.le_of_ble_eq_true rfl, Nat.le_of_ble_eq_true rfl⟩) (fun r_35 w_36 H locs hw hB => ?_)
              obtain ⟨hr9, hw9⟩ := hw
              have hr9 := hr9.symm
              subst hr9
              have hw9 := hw9.symm
              subst hw9
              exact z_iret (v := (-2)) (ws := mW g o a F L (bump 0 A) ++ X) hE hB hr (⟨F, by unfold oddsOK; simp only [c_3, c_8, c_13, c_18, c_26, Bool.and_false, Bool.false_and, Bool.false_eq_true, if_false, Bool.and_true, Bool.true_and], by unfold oddsL chk oddsOK; simp only [c_3, c_8, c_13, c_18, c_26, Bool.and_false, Bool.false_and, Bool.false_eq_true, if_false, Bool.and_true, Bool.true_and], rfl⟩) dX9_odds_52

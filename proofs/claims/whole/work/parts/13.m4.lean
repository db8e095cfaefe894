theorem dX9_layFar_0 : decode cX9_layFar 0 = .ok (.iconst 0, 1) := by decide +kernel
theorem dX9_layFar_1 : decode cX9_layFar 1 = .ok (.istore_n 2, 1) := by decide +kernel
theorem dX9_layFar_2 : decode cX9_layFar 2 = .ok (.iload_n 2, 1) := by decide +kernel
theorem dX9_layFar_3 : decode cX9_layFar 3 = .ok (.bipush 6, 2) := by decide +kernel
theorem dX9_layFar_5 : decode cX9_layFar 5 = .ok (.if_icmp .ge 26, 3) := by decide +kernel
theorem dX9_layFar_8 : decode cX9_layFar 8 = .ok (.aload_n 0, 1) := by decide +kernel
theorem dX9_layFar_9 : decode cX9_layFar 9 = .ok (.getfield 27, 3) := by decide +kernel
theorem dX9_layFar_12 : decode cX9_layFar 12 = .ok (.iload_n 2, 1) := by decide +kernel
theorem dX9_layFar_13 : decode cX9_layFar 13 = .ok (.iload_n 2, 1) := by decide +kernel
theorem dX9_layFar_14 : decode cX9_layFar 14 = .ok (.iload_n 1, 1) := by decide +kernel
theorem dX9_layFar_15 : decode cX9_layFar 15 = .ok (.if_icmp .ne 7, 3) := by decide +kernel
theorem dX9_layFar_18 : decode cX9_layFar 18 = .ok (.iconst 0, 1) := by decide +kernel
theorem dX9_layFar_19 : decode cX9_layFar 19 = .ok (.goto 5, 3) := by decide +kernel
theorem dX9_layFar_22 : decode cX9_layFar 22 = .ok (.ldc 154, 2) := by decide +kernel
theorem dX9_layFar_24 : decode cX9_layFar 24 = .ok (.iastore, 1) := by decide +kernel
theorem dX9_layFar_25 : decode cX9_layFar 25 = .ok (.iinc 2 1, 3) := by decide +kernel
theorem dX9_layFar_28 : decode cX9_layFar 28 = .ok (.goto (-26), 3) := by decide +kernel
theorem dX9_layFar_31 : decode cX9_layFar 31 = .ok (.iconst 0, 1) := by decide +kernel
theorem dX9_layFar_32 : decode cX9_layFar 32 = .ok (.istore_n 2, 1) := by decide +kernel
theorem dX9_layFar_33 : decode cX9_layFar 33 = .ok (.iload_n 2, 1) := by decide +kernel
theorem dX9_layFar_34 : decode cX9_layFar 34 = .ok (.aload_n 0, 1) := by decide +kernel
theorem dX9_layFar_35 : decode cX9_layFar 35 = .ok (.invokevirtual 39, 3) := by decide +kernel
theorem dX9_layFar_38 : decode cX9_layFar 38 = .ok (.if_icmp .ge 110, 3) := by decide +kernel
theorem dX9_layFar_41 : decode cX9_layFar 41 = .ok (.iconst 0, 1) := by decide +kernel
theorem dX9_layFar_42 : decode cX9_layFar 42 = .ok (.istore_n 3, 1) := by decide +kernel
theorem dX9_layFar_43 : decode cX9_layFar 43 = .ok (.iload_n 3, 1) := by decide +kernel
theorem dX9_layFar_44 : decode cX9_layFar 44 = .ok (.aload_n 0, 1) := by decide +kernel
theorem dX9_layFar_45 : decode cX9_layFar 45 = .ok (.invokevirtual 39, 3) := by decide +kernel
theorem dX9_layFar_48 : decode cX9_layFar 48 = .ok (.if_icmp .ge 94, 3) := by decide +kernel
theorem dX9_layFar_51 : decode cX9_layFar 51 = .ok (.iconst 0, 1) := by decide +kernel
theorem dX9_layFar_52 : decode cX9_layFar 52 = .ok (.istore 4, 2) := by decide +kernel
theorem dX9_layFar_54 : decode cX9_layFar 54 = .ok (.iload 4, 2) := by decide +kernel
theorem dX9_layFar_56 : decode cX9_layFar 56 = .ok (.aload_n 0, 1) := by decide +kernel
theorem dX9_layFar_57 : decode cX9_layFar 57 = .ok (.invokevirtual 39, 3) := by decide +kernel
theorem dX9_layFar_60 : decode cX9_layFar 60 = .ok (.if_icmp .ge 76, 3) := by decide +kernel
theorem dX9_layFar_63 : decode cX9_layFar 63 = .ok (.aload_n 0, 1) := by decide +kernel
theorem dX9_layFar_64 : decode cX9_layFar 64 = .ok (.getfield 7, 3) := by decide +kernel
theorem dX9_layFar_67 : decode cX9_layFar 67 = .ok (.bipush 10, 2) := by decide +kernel
theorem dX9_layFar_69 : decode cX9_layFar 69 = .ok (.bipush 6, 2) := by decide +kernel
theorem dX9_layFar_71 : decode cX9_layFar 71 = .ok (.iload_n 3, 1) := by decide +kernel
theorem dX9_layFar_72 : decode cX9_layFar 72 = .ok (.imul, 1) := by decide +kernel
theorem dX9_layFar_73 : decode cX9_layFar 73 = .ok (.iadd, 1) := by decide +kernel
theorem dX9_layFar_74 : decode cX9_layFar 74 = .ok (.iload 4, 2) := by decide +kernel
theorem dX9_layFar_76 : decode cX9_layFar 76 = .ok (.iadd, 1) := by decide +kernel
theorem dX9_layFar_77 : decode cX9_layFar 77 = .ok (.iaload, 1) := by decide +kernel
theorem dX9_layFar_78 : decode cX9_layFar 78 = .ok (.istore 5, 2) := by decide +kernel
theorem dX9_layFar_80 : decode cX9_layFar 80 = .ok (.aload_n 0, 1) := by decide +kernel
theorem dX9_layFar_81 : decode cX9_layFar 81 = .ok (.getfield 27, 3) := by decide +kernel
theorem dX9_layFar_84 : decode cX9_layFar 84 = .ok (.iload 4, 2) := by decide +kernel
theorem dX9_layFar_86 : decode cX9_layFar 86 = .ok (.iload 5, 2) := by decide +kernel
theorem dX9_layFar_88 : decode cX9_layFar 88 = .ok (.ifCond .le 34, 3) := by decide +kernel
theorem dX9_layFar_91 : decode cX9_layFar 91 = .ok (.aload_n 0, 1) := by decide +kernel
theorem dX9_layFar_92 : decode cX9_layFar 92 = .ok (.getfield 27, 3) := by decide +kernel
theorem dX9_layFar_95 : decode cX9_layFar 95 = .ok (.iload_n 3, 1) := by decide +kernel
theorem dX9_layFar_96 : decode cX9_layFar 96 = .ok (.iaload, 1) := by decide +kernel
theorem dX9_layFar_97 : decode cX9_layFar 97 = .ok (.iload 5, 2) := by decide +kernel
theorem dX9_layFar_99 : decode cX9_layFar 99 = .ok (.iadd, 1) := by decide +kernel
theorem dX9_layFar_100 : decode cX9_layFar 100 = .ok (.aload_n 0, 1) := by decide +kernel
theorem dX9_layFar_101 : decode cX9_layFar 101 = .ok (.getfield 27, 3) := by decide +kernel
theorem dX9_layFar_104 : decode cX9_layFar 104 = .ok (.iload 4, 2) := by decide +kernel
theorem dX9_layFar_106 : decode cX9_layFar 106 = .ok (.iaload, 1) := by decide +kernel
theorem dX9_layFar_107 : decode cX9_layFar 107 = .ok (.if_icmp .ge 15, 3) := by decide +kernel
theorem dX9_layFar_110 : decode cX9_layFar 110 = .ok (.aload_n 0, 1) := by decide +kernel
theorem dX9_layFar_111 : decode cX9_layFar 111 = .ok (.getfield 27, 3) := by decide +kernel
theorem dX9_layFar_114 : decode cX9_layFar 114 = .ok (.iload_n 3, 1) := by decide +kernel
theorem dX9_layFar_115 : decode cX9_layFar 115 = .ok (.iaload, 1) := by decide +kernel
theorem dX9_layFar_116 : decode cX9_layFar 116 = .ok (.iload 5, 2) := by decide +kernel
theorem dX9_layFar_118 : decode cX9_layFar 118 = .ok (.iadd, 1) := by decide +kernel
theorem dX9_layFar_119 : decode cX9_layFar 119 = .ok (.goto 10, 3) := by decide +kernel
theorem dX9_layFar_122 : decode cX9_layFar 122 = .ok (.aload_n 0, 1) := by decide +kernel
theorem dX9_layFar_123 : decode cX9_layFar 123 = .ok (.getfield 27, 3) := by decide +kernel
theorem dX9_layFar_126 : decode cX9_layFar 126 = .ok (.iload 4, 2) := by decide +kernel
theorem dX9_layFar_128 : decode cX9_layFar 128 = .ok (.iaload, 1) := by decide +kernel
theorem dX9_layFar_129 : decode cX9_layFar 129 = .ok (.iastore, 1) := by decide +kernel
theorem dX9_layFar_130 : decode cX9_layFar 130 = .ok (.iinc 4 1, 3) := by decide +kernel
theorem dX9_layFar_133 : decode cX9_layFar 133 = .ok (.goto (-79), 3) := by decide +kernel
theorem dX9_layFar_136 : decode cX9_layFar 136 = .ok (.iinc 3 1, 3) := by decide +kernel
theorem dX9_layFar_139 : decode cX9_layFar 139 = .ok (.goto (-96), 3) := by decide +kernel
theorem dX9_layFar_142 : decode cX9_layFar 142 = .ok (.iinc 2 1, 3) := by decide +kernel
theorem dX9_layFar_145 : decode cX9_layFar 145 = .ok (.goto (-112), 3) := by decide +kernel
theorem dX9_layFar_148 : decode cX9_layFar 148 = .ok (.return_, 1) := by decide +kernel
theorem dX9_far_0 : decode cX9_far 0 = .ok (.aload_n 0, 1) := by decide +kernel
theorem dX9_far_1 : decode cX9_far 1 = .ok (.iload_n 1, 1) := by decide +kernel
theorem dX9_far_2 : decode cX9_far 2 = .ok (.invokevirtual 73, 3) := by decide +kernel
theorem dX9_far_5 : decode cX9_far 5 = .ok (.ifCond .eq 11, 3) := by decide +kernel
theorem dX9_far_8 : decode cX9_far 8 = .ok (.aload_n 0, 1) := by decide +kernel
theorem dX9_far_9 : decode cX9_far 9 = .ok (.iload_n 2, 1) := by decide +kernel
theorem dX9_far_10 : decode cX9_far 10 = .ok (.invokevirtual 73, 3) := by decide +kernel
theorem dX9_far_13 : decode cX9_far 13 = .ok (.ifCond .ne 10, 3) := by decide +kernel
theorem dX9_far_16 : decode cX9_far 16 = .ok (.aload_n 0, 1) := by decide +kernel
theorem dX9_far_17 : decode cX9_far 17 = .ok (.bipush (-2), 2) := by decide +kernel
theorem dX9_far_19 : decode cX9_far 19 = .ok (.invokevirtual 62, 3) := by decide +kernel
theorem dX9_far_22 : decode cX9_far 22 = .ok (.ireturn, 1) := by decide +kernel
theorem dX9_far_23 : decode cX9_far 23 = .ok (.aload_n 0, 1) := by decide +kernel
theorem dX9_far_24 : decode cX9_far 24 = .ok (.iload_n 1, 1) := by decide +kernel
theorem dX9_far_25 : decode cX9_far 25 = .ok (.invokevirtual 155, 3) := by decide +kernel
theorem dX9_far_28 : decode cX9_far 28 = .ok (.aload_n 0, 1) := by decide +kernel
theorem dX9_far_29 : decode cX9_far 29 = .ok (.getfield 27, 3) := by decide +kernel
theorem dX9_far_32 : decode cX9_far 32 = .ok (.iload_n 2, 1) := by decide +kernel
theorem dX9_far_33 : decode cX9_far 33 = .ok (.iaload, 1) := by decide +kernel
theorem dX9_far_34 : decode cX9_far 34 = .ok (.ldc 154, 2) := by decide +kernel
theorem dX9_far_36 : decode cX9_far 36 = .ok (.if_icmp .ge 12, 3) := by decide +kernel
theorem dX9_far_39 : decode cX9_far 39 = .ok (.aload_n 0, 1) := by decide +kernel
theorem dX9_far_40 : decode cX9_far 40 = .ok (.getfield 27, 3) := by decide +kernel
theorem dX9_far_43 : decode cX9_far 43 = .ok (.iload_n 2, 1) := by decide +kernel
theorem dX9_far_44 : decode cX9_far 44 = .ok (.iaload, 1) := by decide +kernel
theorem dX9_far_45 : decode cX9_far 45 = .ok (.goto 4, 3) := by decide +kernel
theorem dX9_far_48 : decode cX9_far 48 = .ok (.iconst (-1), 1) := by decide +kernel
theorem dX9_far_49 : decode cX9_far 49 = .ok (.ireturn, 1) := by decide +kernel
theorem dX9_nearest_0 : decode cX9_nearest 0 = .ok (.aload_n 0, 1) := by decide +kernel
theorem dX9_nearest_1 : decode cX9_nearest 1 = .ok (.iload_n 1, 1) := by decide +kernel
theorem dX9_nearest_2 : decode cX9_nearest 2 = .ok (.invokevirtual 73, 3) := by decide +kernel
theorem dX9_nearest_5 : decode cX9_nearest 5 = .ok (.ifCond .eq 40, 3) := by decide +kernel
theorem dX9_nearest_8 : decode cX9_nearest 8 = .ok (.iload_n 2, 1) := by decide +kernel
theorem dX9_nearest_9 : decode cX9_nearest 9 = .ok (.invokestatic 83, 3) := by decide +kernel
theorem dX9_nearest_12 : decode cX9_nearest 12 = .ok (.ifCond .eq 33, 3) := by decide +kernel
theorem dX9_nearest_15 : decode cX9_nearest 15 = .ok (.iload_n 3, 1) := by decide +kernel
theorem dX9_nearest_16 : decode cX9_nearest 16 = .ok (.invokestatic 147, 3) := by decide +kernel
theorem dX9_nearest_19 : decode cX9_nearest 19 = .ok (.ifCond .eq 26, 3) := by decide +kernel
theorem dX9_nearest_22 : decode cX9_nearest 22 = .ok (.iload 4, 2) := by decide +kernel
theorem dX9_nearest_24 : decode cX9_nearest 24 = .ok (.iload 5, 2) := by decide +kernel
theorem dX9_nearest_26 : decode cX9_nearest 26 = .ok (.invokestatic 150, 3) := by decide +kernel
theorem dX9_nearest_29 : decode cX9_nearest 29 = .ok (.ifCond .eq 16, 3) := by decide +kernel
theorem dX9_nearest_32 : decode cX9_nearest 32 = .ok (.iload 6, 2) := by decide +kernel
theorem dX9_nearest_34 : decode cX9_nearest 34 = .ok (.i2l, 1) := by decide +kernel
theorem dX9_nearest_35 : decode cX9_nearest 35 = .ok (.lconst 0, 1) := by decide +kernel
theorem dX9_nearest_36 : decode cX9_nearest 36 = .ok (.ldc2_w 159, 3) := by decide +kernel
theorem dX9_nearest_39 : decode cX9_nearest 39 = .ok (.invokestatic 43, 3) := by decide +kernel
theorem dX9_nearest_42 : decode cX9_nearest 42 = .ok (.ifCond .ne 10, 3) := by decide +kernel
theorem dX9_nearest_45 : decode cX9_nearest 45 = .ok (.aload_n 0, 1) := by decide +kernel
theorem dX9_nearest_46 : decode cX9_nearest 46 = .ok (.bipush (-2), 2) := by decide +kernel
theorem dX9_nearest_48 : decode cX9_nearest 48 = .ok (.invokevirtual 62, 3) := by decide +kernel
theorem dX9_nearest_51 : decode cX9_nearest 51 = .ok (.ireturn, 1) := by decide +kernel
theorem dX9_nearest_52 : decode cX9_nearest 52 = .ok (.aload_n 0, 1) := by decide +kernel
theorem dX9_nearest_53 : decode cX9_nearest 53 = .ok (.iload_n 1, 1) := by decide +kernel
theorem dX9_nearest_54 : decode cX9_nearest 54 = .ok (.invokevirtual 155, 3) := by decide +kernel
theorem dX9_nearest_57 : decode cX9_nearest 57 = .ok (.iload_n 3, 1) := by decide +kernel
theorem dX9_nearest_58 : decode cX9_nearest 58 = .ok (.istore 7, 2) := by decide +kernel
theorem dX9_nearest_60 : decode cX9_nearest 60 = .ok (.iload 7, 2) := by decide +kernel
theorem dX9_nearest_62 : decode cX9_nearest 62 = .ok (.bipush 60, 2) := by decide +kernel
theorem dX9_nearest_64 : decode cX9_nearest 64 = .ok (.if_icmp .ge 140, 3) := by decide +kernel
theorem dX9_nearest_67 : decode cX9_nearest 67 = .ok (.iconst (-1), 1) := by decide +kernel
theorem dX9_nearest_68 : decode cX9_nearest 68 = .ok (.istore 8, 2) := by decide +kernel
theorem dX9_nearest_70 : decode cX9_nearest 70 = .ok (.iconst 0, 1) := by decide +kernel
theorem dX9_nearest_71 : decode cX9_nearest 71 = .ok (.istore 9, 2) := by decide +kernel
theorem dX9_nearest_73 : decode cX9_nearest 73 = .ok (.iload 9, 2) := by decide +kernel
theorem dX9_nearest_75 : decode cX9_nearest 75 = .ok (.aload_n 0, 1) := by decide +kernel
theorem dX9_nearest_76 : decode cX9_nearest 76 = .ok (.invokevirtual 39, 3) := by decide +kernel
theorem dX9_nearest_79 : decode cX9_nearest 79 = .ok (.if_icmp .ge 84, 3) := by decide +kernel
theorem dX9_nearest_82 : decode cX9_nearest 82 = .ok (.aload_n 0, 1) := by decide +kernel
theorem dX9_nearest_83 : decode cX9_nearest 83 = .ok (.getfield 27, 3) := by decide +kernel
theorem dX9_nearest_86 : decode cX9_nearest 86 = .ok (.iload 9, 2) := by decide +kernel
theorem dX9_nearest_88 : decode cX9_nearest 88 = .ok (.iaload, 1) := by decide +kernel
theorem dX9_nearest_89 : decode cX9_nearest 89 = .ok (.iload 7, 2) := by decide +kernel
theorem dX9_nearest_91 : decode cX9_nearest 91 = .ok (.iload_n 3, 1) := by decide +kernel
theorem dX9_nearest_92 : decode cX9_nearest 92 = .ok (.isub, 1) := by decide +kernel
theorem dX9_nearest_93 : decode cX9_nearest 93 = .ok (.if_icmp .gt 30, 3) := by decide +kernel
theorem dX9_nearest_96 : decode cX9_nearest 96 = .ok (.iload 8, 2) := by decide +kernel
theorem dX9_nearest_98 : decode cX9_nearest 98 = .ok (.iconst (-1), 1) := by decide +kernel
theorem dX9_nearest_99 : decode cX9_nearest 99 = .ok (.if_icmp .eq 20, 3) := by decide +kernel
theorem dX9_nearest_102 : decode cX9_nearest 102 = .ok (.aload_n 0, 1) := by decide +kernel
theorem dX9_nearest_103 : decode cX9_nearest 103 = .ok (.getfield 27, 3) := by decide +kernel
theorem dX9_nearest_106 : decode cX9_nearest 106 = .ok (.iload 9, 2) := by decide +kernel
theorem dX9_nearest_108 : decode cX9_nearest 108 = .ok (.iaload, 1) := by decide +kernel
theorem dX9_nearest_109 : decode cX9_nearest 109 = .ok (.aload_n 0, 1) := by decide +kernel
theorem dX9_nearest_110 : decode cX9_nearest 110 = .ok (.getfield 27, 3) := by decide +kernel
theorem dX9_nearest_113 : decode cX9_nearest 113 = .ok (.iload 8, 2) := by decide +kernel
theorem dX9_nearest_115 : decode cX9_nearest 115 = .ok (.iaload, 1) := by decide +kernel
theorem dX9_nearest_116 : decode cX9_nearest 116 = .ok (.if_icmp .ge 7, 3) := by decide +kernel
theorem dX9_nearest_119 : decode cX9_nearest 119 = .ok (.iconst 1, 1) := by decide +kernel
theorem dX9_nearest_120 : decode cX9_nearest 120 = .ok (.goto 4, 3) := by decide +kernel
theorem dX9_nearest_123 : decode cX9_nearest 123 = .ok (.iconst 0, 1) := by decide +kernel
theorem dX9_nearest_124 : decode cX9_nearest 124 = .ok (.istore 10, 2) := by decide +kernel
theorem dX9_nearest_126 : decode cX9_nearest 126 = .ok (.iload 10, 2) := by decide +kernel
theorem dX9_nearest_128 : decode cX9_nearest 128 = .ok (.ifCond .eq 25, 3) := by decide +kernel
theorem dX9_nearest_131 : decode cX9_nearest 131 = .ok (.aload_n 0, 1) := by decide +kernel
theorem dX9_nearest_132 : decode cX9_nearest 132 = .ok (.iload 9, 2) := by decide +kernel
theorem dX9_nearest_134 : decode cX9_nearest 134 = .ok (.iload_n 2, 1) := by decide +kernel
theorem dX9_nearest_135 : decode cX9_nearest 135 = .ok (.iload 7, 2) := by decide +kernel
theorem dX9_nearest_137 : decode cX9_nearest 137 = .ok (.iload 4, 2) := by decide +kernel
theorem dX9_nearest_139 : decode cX9_nearest 139 = .ok (.iload 5, 2) := by decide +kernel
theorem dX9_nearest_141 : decode cX9_nearest 141 = .ok (.iconst 0, 1) := by decide +kernel
theorem dX9_nearest_142 : decode cX9_nearest 142 = .ok (.invokevirtual 161, 3) := by decide +kernel
theorem dX9_nearest_145 : decode cX9_nearest 145 = .ok (.ifCond .eq 8, 3) := by decide +kernel
theorem dX9_nearest_148 : decode cX9_nearest 148 = .ok (.iload 9, 2) := by decide +kernel
theorem dX9_nearest_150 : decode cX9_nearest 150 = .ok (.goto 5, 3) := by decide +kernel
theorem dX9_nearest_153 : decode cX9_nearest 153 = .ok (.iload 8, 2) := by decide +kernel
theorem dX9_nearest_155 : decode cX9_nearest 155 = .ok (.istore 8, 2) := by decide +kernel
theorem dX9_nearest_157 : decode cX9_nearest 157 = .ok (.iinc 9 1, 3) := by decide +kernel
theorem dX9_nearest_160 : decode cX9_nearest 160 = .ok (.goto (-87), 3) := by decide +kernel
theorem dX9_nearest_163 : decode cX9_nearest 163 = .ok (.iload 8, 2) := by decide +kernel
theorem dX9_nearest_165 : decode cX9_nearest 165 = .ok (.iconst (-1), 1) := by decide +kernel
theorem dX9_nearest_166 : decode cX9_nearest 166 = .ok (.if_icmp .eq 32, 3) := by decide +kernel
theorem dX9_nearest_169 : decode cX9_nearest 169 = .ok (.iload 6, 2) := by decide +kernel
theorem dX9_nearest_171 : decode cX9_nearest 171 = .ok (.ifCond .ne 8, 3) := by decide +kernel
theorem dX9_nearest_174 : decode cX9_nearest 174 = .ok (.iload 7, 2) := by decide +kernel
theorem dX9_nearest_176 : decode cX9_nearest 176 = .ok (.goto 21, 3) := by decide +kernel
theorem dX9_nearest_179 : decode cX9_nearest 179 = .ok (.iload 6, 2) := by decide +kernel
theorem dX9_nearest_181 : decode cX9_nearest 181 = .ok (.iconst 1, 1) := by decide +kernel
theorem dX9_nearest_182 : decode cX9_nearest 182 = .ok (.if_icmp .ne 8, 3) := by decide +kernel
theorem dX9_nearest_185 : decode cX9_nearest 185 = .ok (.iload 8, 2) := by decide +kernel
theorem dX9_nearest_187 : decode cX9_nearest 187 = .ok (.goto 10, 3) := by decide +kernel
theorem dX9_nearest_190 : decode cX9_nearest 190 = .ok (.aload_n 0, 1) := by decide +kernel
theorem dX9_nearest_191 : decode cX9_nearest 191 = .ok (.getfield 27, 3) := by decide +kernel
theorem dX9_nearest_194 : decode cX9_nearest 194 = .ok (.iload 8, 2) := by decide +kernel
theorem dX9_nearest_196 : decode cX9_nearest 196 = .ok (.iaload, 1) := by decide +kernel
theorem dX9_nearest_197 : decode cX9_nearest 197 = .ok (.ireturn, 1) := by decide +kernel
theorem dX9_nearest_198 : decode cX9_nearest 198 = .ok (.iinc 7 1, 3) := by decide +kernel
theorem dX9_nearest_201 : decode cX9_nearest 201 = .ok (.goto (-141), 3) := by decide +kernel
theorem dX9_nearest_204 : decode cX9_nearest 204 = .ok (.iconst (-1), 1) := by decide +kernel
theorem dX9_nearest_205 : decode cX9_nearest 205 = .ok (.ireturn, 1) := by decide +kernel
theorem kX9_layFar : zCV yX9_layFar RX9 cX9_layFar 6 none 1 := ⟨q4_199, qp31, q1_3, q4_200, rfl, by decide +kernel, by decide +kernel, by decide +kernel⟩
theorem kX9_far : zCV yX9_far RX9 cX9_far 3 (some .int) 2 := ⟨q4_194, q4_195, q1_3, q4_196, rfl, by decide +kernel, by decide +kernel, by decide +kernel⟩
theorem kX9_nearest : zCV yX9_nearest RX9 cX9_nearest 11 (some .int) 6 := ⟨q4_203, q4_204, q1_3, q4_205, rfl, by decide +kernel, by decide +kernel, by decide +kernel⟩
set_option maxHeartbeats 4000000 in
set_option maxRecDepth 100000 in
theorem c_X9_layFar (l : Launch) (g : zG) (o : Nat) (a : Nat → Nat) (F : Nat → Int32) (L : Nat → Int64) (A : Nat → Nat → Int32) (X : va_W) (T : Nat) (C : Nat) (V : Nat) (U : Nat) (fr : Nat) (hn : nOK (A 0) T C V U) (hfr : fr < 6) : Met l yX9_layFar (Cond.code yX9_layFar cX9_layFar 6 none :: TBL) { frames := 1, cells := 0, slots := 0, locals := 20 } (zPc [.ref o, .int (nI fr)] g (mW g o a F L A ++ X)) (zQv g (fun ws => ∃ (f1 : Nat → Int32), ws = mW g o a F L (updA A 4 f1) ++ X ∧ (∀ x, x < 6 → f1 x = nI (fD (A 0) T fr x)))) 0 0 (zA (gz g)) := by
  refine z_start (by decide +kernel) rfl (Nat.le_of_ble_eq_true rfl) ?_
  intro p e s m args below meth c ls hE hr hnm hB hl
  have hl : lv_has ls 6 [(0, .ref o), (1, .int (nI fr))] := hl
  revert hB
  generalize s.heap = H
  generalize ([] : List Loc) = locs
  intro hB
  have hT := hn.T
  have hT6 := hn.T6
  have hC := hn.C
  have hC8 := hn.C8
  have hV := hn.V
  have hV8 := hn.V8
  have hU := hn.U
  have hU8 := hn.U8
  refine lv_iconst (v := nI 0) hE.x hE.b dX9_layFar_0 rfl ?_
  refine lv_istore_n (lv' := [(2, .int (nI 0)), (0, .ref o), (1, .int (nI fr))]) hE.x hE.b dX9_layFar_1 rfl hl (by decide) rfl (fun ls hl => ?_)
  have k2 : ∀ (fu : Nat) (t : Nat) (f : Nat → Int32) (H : Heap) (locs : List Loc) (ls : Array Slot), 6 - t < fu → (t ≤ 6) → (∀ x, x < t → f x = nI (d0 fr 1000000 x)) → zB g s (mW g o a F L (updA A 4 f) ++ X) H locs → lv_has ls 6 [(2, .int (nI t)), (0, .ref o), (1, .int (nI fr))] → W p l e { frames := 1, cells := 0, slots := 0, locals := 20 } s m args below meth c H locs 0 0 (MQ below (zQv g (fun ws => ∃ (f1 : Nat → Int32), ws = mW g o a F L (updA A 4 f1) ++ X ∧ (∀ x, x < 6 → f1 x = nI (fD (A 0) T fr x)))) args s 0 0 (zA (gz g))) (F0 m 2 ls []) := by
    intro fu
    induction fu with
    | zero => intro t f H locs ls hfu ht hf hB hl; exact absurd hfu (Nat.not_lt_zero _)
    | succ fu ih2 =>
      intro t f H locs ls hfu ht hf hB hl
      refine lv_iload_n hE.x hE.b dX9_layFar_2 rfl (lv_at hl 0 rfl) ?_
      refine lv_bipush (v := (nI 6)) hE.x hE.b dX9_layFar_3 rfl ?_
      refine z_ge (tgt := 31) (X := ((t : Nat) : Int)) (Y := (6 : Int)) hE dX9_layFar_5 (by decide) (nI_toInt (n := t) (by omega)) rfl (fun c_1 => ?_) (fun c_1 => ?_)
      · refine lv_iconst (v := nI 0) hE.x hE.b dX9_layFar_31 rfl ?_
        refine lv_istore_n (lv' := [(2, .int (nI 0)), (0, .ref o), (1, .int (nI fr))]) hE.x hE.b dX9_layFar_32 rfl hl (by decide) rfl (fun ls hl => ?_)
        have k33 : ∀ (fu : Nat) (tu : Nat) (f : Nat → Int32) (H : Heap) (locs : List Loc) (ls : Array Slot), T - tu < fu → (tu ≤ T) → (∀ x, x < 6 → f x = nI (rN (rwE (A 0)) T (d0 fr 1000000) tu x)) → zB g s (mW g o a F L (updA A 4 f) ++ X) H locs → lv_has ls 6 [(2, .int (nI tu)), (0, .ref o), (1, .int (nI fr))] → W p l e { frames := 1, cells := 0, slots := 0, locals := 20 } s m args below meth c H locs 0 0 (MQ below (zQv g (fun ws => ∃ (f1 : Nat → Int32), ws = mW g o a F L (updA A 4 f1) ++ X ∧ (∀ x, x < 6 → f1 x = nI (fD (A 0) T fr x)))) args s 0 0 (zA (gz g))) (F0 m 33 ls []) := by
          intro fu
          induction fu with
          | zero => intro tu f H locs ls hfu htu hf hB hl; exact absurd hfu (Nat.not_lt_zero _)
          | succ fu ih33 =>
            intro tu f H locs ls hfu htu hf hB hl
            refine lv_iload_n hE.x hE.b dX9_layFar_33 rfl (lv_at hl 0 rfl) ?_
            refine lv_aload_n hE.x hE.b dX9_layFar_34 rfl (lv_at hl 1 rfl) ?_
            refine z_qi hB (z_cV hE hB (c_X9_towns l g o a F L (updA A 4 f) X T hT) q4_76 kX9_towns ⟨rfl, rfl⟩ ⟨Nat.le_of_ble_eq_true rfl, Nat.le_of_ble_eq_true rfl⟩ 0 rfl rfl rfl hl.1 rfl (Nat.le_of_ble_eq_true rfl) dX9_layFar_35 ⟨Nat.le_of_ble_eq_true rfl, Nat.le_of_ble_eq_true rfl⟩) (fun r_2 w_3 H locs hw hB => ?_)
            obtain ⟨hr9, hw9⟩ := hw
            have hr9 := hr9.symm
            subst hr9
            have hw9 := hw9.symm
            subst hw9
            refine z_ge (tgt := 148) (X := ((tu : Nat) : Int)) (Y := ((T : Nat) : Int)) hE dX9_layFar_38 (by decide) (nI_toInt (n := tu) (by omega)) (nI_toInt (n := T) (by omega)) (fun c_4 => ?_) (fun c_4 => ?_)
            · exact z_vret (ws := mW g o a F L (updA A 4 f) ++ X) hE hB hr (by rw [show tu = T by omega] at hf; exact ⟨f, rfl, hf⟩) dX9_layFar_148
            · refine lv_iconst (v := nI 0) hE.x hE.b dX9_layFar_41 rfl ?_
              refine lv_istore_n (lv' := [(3, .int (nI 0)), (2, .int (nI tu)), (0, .ref o), (1, .int (nI fr))]) hE.x hE.b dX9_layFar_42 rfl hl (by decide) rfl (fun ls hl => ?_)
              have k43 : ∀ (fu : Nat) (i : Nat) (f : Nat → Int32) (H : Heap) (locs : List Loc) (ls : Array Slot), T - i < fu → (i ≤ T) → (∀ x, x < 6 → f x = nI (rA (rwE (A 0)) T (rN (rwE (A 0)) T (d0 fr 1000000) tu) i x)) → zB g s (mW g o a F L (updA A 4 f) ++ X) H locs → lv_has ls 6 [(3, .int (nI i)), (2, .int (nI tu)), (0, .ref o), (1, .int (nI fr))] → W p l e { frames := 1, cells := 0, slots := 0, locals := 20 } s m args below meth c H locs 0 0 (MQ below (zQv g (fun ws => ∃ (f1 : Nat → Int32), ws = mW g o a F L (updA A 4 f1) ++ X ∧ (∀ x, x < 6 → f1 x = nI (fD (A 0) T fr x)))) args s 0 0 (zA (gz g))) (F0 m 43 ls []) := by
                intro fu
                induction fu with
                | zero => intro i f H locs ls hfu hi hf hB hl; exact absurd hfu (Nat.not_lt_zero _)
                | succ fu ih43 =>
                  intro i f H locs ls hfu hi hf hB hl
                  refine lv_iload_n hE.x hE.b dX9_layFar_43 rfl (lv_at hl 0 rfl) ?_
                  refine lv_aload_n hE.x hE.b dX9_layFar_44 rfl (lv_at hl 2 rfl) ?_
                  refine z_qi hB (z_cV hE hB (c_X9_towns l g o a F L (updA A 4 f) X T hT) q4_76 kX9_towns ⟨rfl, rfl⟩ ⟨Nat.le_of_ble_eq_true rfl, Nat.le_of_ble_eq_true rfl⟩ 0 rfl rfl rfl hl.1 rfl (Nat.le_of_ble_eq_true rfl) dX9_layFar_45 ⟨Nat.le_of_ble_eq_true rfl, Nat.le_of_ble_eq_true rfl⟩) (fun r_5 w_6 H locs hw hB => ?_)
                  obtain ⟨hr9, hw9⟩ := hw
                  have hr9 := hr9.symm
                  subst hr9
                  have hw9 := hw9.symm
                  subst hw9
                  refine z_ge (tgt := 142) (X := ((i : Nat) : Int)) (Y := ((T : Nat) : Int)) hE dX9_layFar_48 (by decide) (nI_toInt (n := i) (by omega)) (nI_toInt (n := T) (by omega)) (fun c_7 => ?_) (fun c_7 => ?_)
                  · refine lv_iinc (v := (nI (tu + 1))) (lv' := [(2, .int (nI (tu + 1))), (3, .int (nI i)), (0, .ref o), (1, .int (nI fr))]) hE.x hE.b dX9_layFar_142 hl (k := 1) rfl (nI_add _ _) (by decide) rfl (fun ls hl => ?_)
                    refine lv_goto (tgt := 33) hE.x hE.b dX9_layFar_145 (by decide) ?_
                    exact ih33 (tu + 1) f _ _ _ (by omega) (by omega) (by rw [show i = T by omega] at hf; exact hf) hB (lv_sub hl [0, 2, 3] rfl)
                  · refine lv_iconst (v := nI 0) hE.x hE.b dX9_layFar_51 rfl ?_
                    refine lv_istore (lv' := [(4, .int (nI 0)), (3, .int (nI i)), (2, .int (nI tu)), (0, .ref o), (1, .int (nI fr))]) hE.x hE.b dX9_layFar_52 hl (by decide) rfl (fun ls hl => ?_)
                    have k54 : ∀ (fu : Nat) (j : Nat) (f : Nat → Int32) (d : Nat → Nat) (H : Heap) (locs : List Loc) (ls : Array Slot), T - j < fu → (j ≤ T) → (d = rB (rwE (A 0)) (rA (rwE (A 0)) T (rN (rwE (A 0)) T (d0 fr 1000000) tu) i) i j) → (∀ x, d x ≤ 1000000) → (∀ x, x < 6 → f x = nI (d x)) → zB g s (mW g o a F L (updA A 4 f) ++ X) H locs → lv_has ls 6 [(4, .int (nI j)), (3, .int (nI i)), (2, .int (nI tu)), (0, .ref o), (1, .int (nI fr))] → W p l e { frames := 1, cells := 0, slots := 0, locals := 20 } s m args below meth c H locs 0 0 (MQ below (zQv g (fun ws => ∃ (f1 : Nat → Int32), ws = mW g o a F L (updA A 4 f1) ++ X ∧ (∀ x, x < 6 → f1 x = nI (fD (A 0) T fr x)))) args s 0 0 (zA (gz g))) (F0 m 54 ls []) := by
                      intro fu
                      induction fu with
                      | zero => intro j f d H locs ls hfu hj hd hle hf hB hl; exact absurd hfu (Nat.not_lt_zero _)
                      | succ fu ih54 =>
                        intro j f d H locs ls hfu hj hd hle hf hB hl
                        refine lv_iload hE.x hE.b dX9_layFar_54 (lv_at hl 0 rfl) ?_
                        refine lv_aload_n hE.x hE.b dX9_layFar_56 rfl (lv_at hl 3 rfl) ?_
                        refine z_qi hB (z_cV hE hB (c_X9_towns l g o a F L (updA A 4 f) X T hT) q4_76 kX9_towns ⟨rfl, rfl⟩ ⟨Nat.le_of_ble_eq_true rfl, Nat.le_of_ble_eq_true rfl⟩ 0 rfl rfl rfl hl.1 rfl (Nat.le_of_ble_eq_true rfl) dX9_layFar_57 ⟨Nat.le_of_ble_eq_true rfl, Nat.le_of_ble_eq_true rfl⟩) (fun r_8 w_9 H locs hw hB => ?_)
                        obtain ⟨hr9, hw9⟩ := hw
                        have hr9 := hr9.symm
                        subst hr9
                        have hw9 := hw9.symm
                        subst hw9
                        refine z_ge (tgt := 136) (X := ((j : Nat) : Int)) (Y := ((T : Nat) : Int)) hE dX9_layFar_60 (by decide) (nI_toInt (n := j) (by omega)) (nI_toInt (n := T) (by omega)) (fun c_10 => ?_) (fun c_10 => ?_)
                        · refine lv_iinc (v := (nI (i + 1))) (lv' := [(3, .int (nI (i + 1))), (4, .int (nI j)), (2, .int (nI tu)), (0, .ref o), (1, .int (nI fr))]) hE.x hE.b dX9_layFar_136 hl (k := 1) rfl (nI_add _ _) (by decide) rfl (fun ls hl => ?_)
                          refine lv_goto (tgt := 43) hE.x hE.b dX9_layFar_139 (by decide) ?_
                          exact ih43 (i + 1) f _ _ _ (by omega) (by omega) (by rw [show j = T by omega] at hd; rw [hd] at hf; exact hf) hB (lv_sub hl [0, 2, 3, 4] rfl)
                        · refine lv_aload_n hE.x hE.b dX9_layFar_63 rfl (lv_at hl 3 rfl) ?_
                          refine z_get (v := .ref (a 0)) hE hB inX9 0 rfl rfl 0 (by decide) q4_1 (fun _ h9 => h9) rfl dX9_layFar_64 ?_
                          refine lv_bipush (v := (nI 10)) hE.x hE.b dX9_layFar_67 rfl ?_
                          refine lv_bipush (v := (nI 6)) hE.x hE.b dX9_layFar_69 rfl ?_
                          refine lv_iload_n hE.x hE.b dX9_layFar_71 rfl (lv_at hl 1 rfl) ?_
                          refine z_imulN hE dX9_layFar_72 ?_
                          refine z_iaddN hE dX9_layFar_73 ?_
                          refine lv_iload hE.x hE.b dX9_layFar_74 (lv_at hl 0 rfl) ?_
                          refine z_iaddN hE dX9_layFar_76 ?_
                          refine z_iald (k := ((10 + (6 * i)) + j)) (f := (A 0)) hE hB 1 rfl (by omega) (by decide) dX9_layFar_77 ?_
                          refine z_top (y := (nI (rwE (A 0) (6 * i + j)))) (rwE_v hn (by omega) (by omega)) ?_
                          refine lv_istore (lv' := [(5, .int (nI (rwE (A 0) (6 * i + j)))), (4, .int (nI j)), (3, .int (nI i)), (2, .int (nI tu)), (0, .ref o), (1, .int (nI fr))]) hE.x hE.b dX9_layFar_78 hl (by decide) rfl (fun ls hl => ?_)
                          have hw9 := rwE_9 hn (i := 6 * i + j) (by omega)
                          have hdi := hle i
                          have hdj := hle j
                          refine lv_aload_n hE.x hE.b dX9_layFar_80 rfl (lv_at hl 4 rfl) ?_
                          refine z_get (v := .ref (a 4)) hE hB inX9 0 rfl rfl 12 (by decide) q4_13 (fun _ h9 => h9) rfl dX9_layFar_81 ?_
                          refine lv_iload hE.x hE.b dX9_layFar_84 (lv_at hl 1 rfl) ?_
                          refine lv_iload hE.x hE.b dX9_layFar_86 (lv_at hl 0 rfl) ?_
                          refine z_le0 (tgt := 122) (X := (((rwE (A 0) (6 * i + j)) : Nat) : Int)) hE dX9_layFar_88 (by decide) (nI_toInt (n := (rwE (A 0) (6 * i + j))) (by omega)) (fun c_11 => ?_) (fun c_11 => ?_)
                          · refine lv_aload_n hE.x hE.b dX9_layFar_122 rfl (lv_at hl 4 rfl) ?_
                            refine z_get (v := .ref (a 4)) hE hB inX9 0 rfl rfl 12 (by decide) q4_13 (fun _ h9 => h9) rfl dX9_layFar_123 ?_
                            refine lv_iload hE.x hE.b dX9_layFar_126 (lv_at hl 1 rfl) ?_
                            refine z_iald (k := j) (f := f) hE hB 5 rfl (by omega) (by decide) dX9_layFar_128 ?_
                            refine z_top (y := (nI (d j))) (hf j (by omega)) ?_
                            refine z_iast (k := j) (f := f) (x := (nI (d j))) (ws' := mW g o a F L (updA A 4 (upd f j (nI (d j)))) ++ X) hE hB 5 rfl (by omega) (by decide) rfl dX9_layFar_129 (fun H locs hB => ?_)
                            refine lv_iinc (v := (nI (j + 1))) (lv' := [(4, .int (nI (j + 1))), (5, .int (nI (rwE (A 0) (6 * i + j)))), (3, .int (nI i)), (2, .int (nI tu)), (0, .ref o), (1, .int (nI fr))]) hE.x hE.b dX9_layFar_130 hl (k := 1) rfl (nI_add _ _) (by decide) rfl (fun ls hl => ?_)
                            refine lv_goto (tgt := 54) hE.x hE.b dX9_layFar_133 (by decide) ?_
                            exact ih54 (j + 1) (upd f j (nI (d j))) (rl (rwE (A 0)) d i j) _ _ _ (by omega) (by omega) (by rw [hd]; rfl) (fun x => Nat.le_trans rl_le (hle x)) (rl_no (by omega) hf) hB (lv_sub hl [0, 2, 3, 4, 5] rfl)
                          · refine lv_aload_n hE.x hE.b dX9_layFar_91 rfl (lv_at hl 4 rfl) ?_
                            refine z_get (v := .ref (a 4)) hE hB inX9 0 rfl rfl 12 (by decide) q4_13 (fun _ h9 => h9) rfl dX9_layFar_92 ?_
                            refine lv_iload_n hE.x hE.b dX9_layFar_95 rfl (lv_at hl 2 rfl) ?_
                            refine z_iald (k := i) (f := f) hE hB 5 rfl (by omega) (by decide) dX9_layFar_96 ?_
                            refine z_top (y := (nI (d i))) (hf i (by omega)) ?_
                            refine lv_iload hE.x hE.b dX9_layFar_97 (lv_at hl 0 rfl) ?_
                            refine z_iaddN hE dX9_layFar_99 ?_
                            refine lv_aload_n hE.x hE.b dX9_layFar_100 rfl (lv_at hl 4 rfl) ?_
                            refine z_get (v := .ref (a 4)) hE hB inX9 0 rfl rfl 12 (by decide) q4_13 (fun _ h9 => h9) rfl dX9_layFar_101 ?_
                            refine lv_iload hE.x hE.b dX9_layFar_104 (lv_at hl 1 rfl) ?_
                            refine z_iald (k := j) (f := f) hE hB 5 rfl (by omega) (by decide) dX9_layFar_106 ?_
                            refine z_top (y := (nI (d j))) (hf j (by omega)) ?_
                            refine z_ge (tgt := 122) (X := ((((d i) + (rwE (A 0) (6 * i + j))) : Nat) : Int)) (Y := (((d j) : Nat) : Int)) hE dX9_layFar_107 (by decide) (nI_toInt (n := ((d i) + (rwE (A 0) (6 * i + j)))) (by omega)) (nI_toInt (n := (d j)) (by omega)) (fun c_12 => ?_) (fun c_12 => ?_)
                            · refine lv_aload_n hE.x hE.b dX9_layFar_122 rfl (lv_at hl 4 rfl) ?_
                              refine z_get (v := .ref (a 4)) hE hB inX9 0 rfl rfl 12 (by decide) q4_13 (fun _ h9 => h9) rfl dX9_layFar_123 ?_
                              refine lv_iload hE.x hE.b dX9_layFar_126 (lv_at hl 1 rfl) ?_
                              refine z_iald (k := j) (f := f) hE hB 5 rfl (by omega) (by decide) dX9_layFar_128 ?_
                              refine z_top (y := (nI (d j))) (hf j (by omega)) ?_
                              refine z_iast (k := j) (f := f) (x := (nI (d j))) (ws' := mW g o a F L (updA A 4 (upd f j (nI (d j)))) ++ X) hE hB 5 rfl (by omega) (by decide) rfl dX9_layFar_129 (fun H locs hB => ?_)
                              refine lv_iinc (v := (nI (j + 1))) (lv' := [(4, .int (nI (j + 1))), (5, .int (nI (rwE (A 0) (6 * i + j)))), (3, .int (nI i)), (2, .int (nI tu)), (0, .ref o), (1, .int (nI fr))]) hE.x hE.b dX9_layFar_130 hl (k := 1) rfl (nI_add _ _) (by decide) rfl (fun ls hl => ?_)
                              refine lv_goto (tgt := 54) hE.x hE.b dX9_layFar_133 (by decide) ?_
                              exact ih54 (j + 1) (upd f j (nI (d j))) (rl (rwE (A 0)) d i j) _ _ _ (by omega) (by omega) (by rw [hd]; rfl) (fun x => Nat.le_trans rl_le (hle x)) (rl_no (by omega) hf) hB (lv_sub hl [0, 2, 3, 4, 5] rfl)
                            · refine lv_aload_n hE.x hE.b dX9_layFar_110 rfl (lv_at hl 4 rfl) ?_
                              refine z_get (v := .ref (a 4)) hE hB inX9 0 rfl rfl 12 (by decide) q4_13 (fun _ h9 => h9) rfl dX9_layFar_111 ?_
                              refine lv_iload_n hE.x hE.b dX9_layFar_114 rfl (lv_at hl 2 rfl) ?_
                              refine z_iald (k := i) (f := f) hE hB 5 rfl (by omega) (by decide) dX9_layFar_115 ?_
                              refine z_top (y := (nI (d i))) (hf i (by omega)) ?_
                              refine lv_iload hE.x hE.b dX9_layFar_116 (lv_at hl 0 rfl) ?_
                              refine z_iaddN hE dX9_layFar_118 ?_
                              refine lv_goto (tgt := 129) hE.x hE.b dX9_layFar_119 (by decide) ?_
                              refine z_iast (k := j) (f := f) (x := (nI ((d i) + (rwE (A 0) (6 * i + j))))) (ws' := mW g o a F L (updA A 4 (upd f j (nI ((d i) + (rwE (A 0) (6 * i + j)))))) ++ X) hE hB 5 rfl (by omega) (by decide) rfl dX9_layFar_129 (fun H locs hB => ?_)
                              refine lv_iinc (v := (nI (j + 1))) (lv' := [(4, .int (nI (j + 1))), (5, .int (nI (rwE (A 0) (6 * i + j)))), (3, .int (nI i)), (2, .int (nI tu)), (0, .ref o), (1, .int (nI fr))]) hE.x hE.b dX9_layFar_130 hl (k := 1) rfl (nI_add _ _) (by decide) rfl (fun ls hl => ?_)
                              refine lv_goto (tgt := 54) hE.x hE.b dX9_layFar_133 (by decide) ?_
                              exact ih54 (j + 1) (upd f j (nI ((d i) + (rwE (A 0) (6 * i + j))))) (rl (rwE (A 0)) d i j) _ _ _ (by omega) (by omega) (by rw [hd]; rfl) (fun x => Nat.le_trans rl_le (hle x)) (rl_yes (by omega) (by omega) hf) hB (lv_sub hl [0, 2, 3, 4, 5] rfl)
                    exact k54 (T - 0 + 1) 0 f (rA (rwE (A 0)) T (rN (rwE (A 0)) T (d0 fr 1000000) tu) i) _ _ _ (Nat.lt_succ_self _) (by omega) rfl (fun x => Nat.le_trans rA_le (Nat.le_trans rN_le d0_le)) hf hB hl
              exact k43 (T - 0 + 1) 0 f _ _ _ (Nat.lt_succ_self _) (by omega) hf hB hl
        exact k33 (T - 0 + 1) 0 f _ _ _ (Nat.lt_succ_self _) (by omega) (by rw [show t = 6 by omega] at hf; exact hf) hB hl
      · refine lv_aload_n hE.x hE.b dX9_layFar_8 rfl (lv_at hl 1 rfl) ?_
        refine z_get (v := .ref (a 4)) hE hB inX9 0 rfl rfl 12 (by decide) q4_13 (fun _ h9 => h9) rfl dX9_layFar_9 ?_
        refine lv_iload_n hE.x hE.b dX9_layFar_12 rfl (lv_at hl 0 rfl) ?_
        refine lv_iload_n hE.x hE.b dX9_layFar_13 rfl (lv_at hl 0 rfl) ?_
        refine lv_iload_n hE.x hE.b dX9_layFar_14 rfl (lv_at hl 2 rfl) ?_
        refine z_ne (tgt := 22) (X := ((t : Nat) : Int)) (Y := ((fr : Nat) : Int)) hE dX9_layFar_15 (by decide) (nI_toInt (n := t) (by omega)) (nI_toInt (n := fr) (by omega)) (fun c_13 => ?_) (fun c_13 => ?_)
        · refine lv_ldc (v := (nI 1000000)) hE.x hE.b hE.o (hE.t _ q4_201) dX9_layFar_22 ?_
          refine z_iast (k := t) (f := f) (x := (nI 1000000)) (ws' := mW g o a F L (updA A 4 (upd f t (nI 1000000))) ++ X) hE hB 5 rfl (by omega) (by decide) rfl dX9_layFar_24 (fun H locs hB => ?_)
          refine lv_iinc (v := (nI (t + 1))) (lv' := [(2, .int (nI (t + 1))), (0, .ref o), (1, .int (nI fr))]) hE.x hE.b dX9_layFar_25 hl (k := 0) rfl (nI_add _ _) (by decide) rfl (fun ls hl => ?_)
          refine lv_goto (tgt := 2) hE.x hE.b dX9_layFar_28 (by decide) ?_
          exact ih2 (t + 1) (upd f t (nI 1000000)) _ _ _ (by omega) (by omega) (d0_st (by unfold d0; rw [if_neg (by omega)]) hf) hB hl
        · refine lv_iconst (v := nI 0) hE.x hE.b dX9_layFar_18 rfl ?_
          refine lv_goto (tgt := 24) hE.x hE.b dX9_layFar_19 (by decide) ?_
          refine z_iast (k := t) (f := f) (x := (nI 0)) (ws' := mW g o a F L (updA A 4 (upd f t (nI 0))) ++ X) hE hB 5 rfl (by omega) (by decide) rfl dX9_layFar_24 (fun H locs hB => ?_)
          refine lv_iinc (v := (nI (t + 1))) (lv' := [(2, .int (nI (t + 1))), (0, .ref o), (1, .int (nI fr))]) hE.x hE.b dX9_layFar_25 hl (k := 0) rfl (nI_add _ _) (by decide) rfl (fun ls hl => ?_)
          refine lv_goto (tgt := 2) hE.x hE.b dX9_layFar_28 (by decide) ?_
          exact ih2 (t + 1) (upd f t (nI 0)) _ _ _ (by omega) (by omega) (d0_st (by unfold d0; rw [if_pos (by omega)]) hf) hB hl
  exact k2 (6 - 0 + 1) 0 (A 4) _ _ _ (Nat.lt_succ_self _) (by omega) (fun x hx => absurd hx (Nat.not_lt_zero _)) hB hl

set_option maxHeartbeats 4000000 in
set_option maxRecDepth 100000 in
theorem c_X9_far (l : Launch) (g : zG) (o : Nat) (a : Nat → Nat) (F : Nat → Int32) (L : Nat → Int64) (A : Nat → Nat → Int32) (X : va_W) (T : Nat) (C : Nat) (V : Nat) (U : Nat) (x : Int32) (y : Int32) (hn : nOK (A 0) T C V U) : Met l yX9_far (Cond.code yX9_far cX9_far 3 (some .int) :: TBL) { frames := 2, cells := 0, slots := 0, locals := 46 } (zPc [.ref o, .int x, .int y] g (mW g o a F L A ++ X)) (zQi g (fun r ws => ∃ (f1 : Nat → Int32), r = (farR (A 0) T x y) ∧ ws = mW g o a F L (updA (chk (pTown T x && pTown T y) A) 4 f1) ++ X)) 0 0 (zA (gz g)) := by
  refine z_start (by decide +kernel) rfl (Nat.le_of_ble_eq_true rfl) ?_
  intro p e s m args below meth c ls hE hr hnm hB hl
  have hl : lv_has ls 3 [(0, .ref o), (1, .int x), (2, .int y)] := hl
  revert hB
  generalize s.heap = H
  generalize ([] : List Loc) = locs
  intro hB
  have hT := hn.T
  have hT6 := hn.T6
  have hC := hn.C
  have hC8 := hn.C8
  have hV := hn.V
  have hV8 := hn.V8
  have hU := hn.U
  have hU8 := hn.U8
  refine lv_aload_n hE.x hE.b dX9_far_0 rfl (lv_at hl 0 rfl) ?_
  refine lv_iload_n hE.x hE.b dX9_far_1 rfl (lv_at hl 1 rfl) ?_
  refine z_qi hB (z_cV hE hB (c_X9_isTown l g o a F L A X T x hT (by omega)) q4_106 kX9_isTown ⟨rfl, rfl⟩ ⟨Nat.le_of_ble_eq_true rfl, Nat.le_of_ble_eq_true rfl⟩ 0 rfl rfl rfl hl.1 rfl (Nat.le_of_ble_eq_true rfl) dX9_far_2 ⟨Nat.le_of_ble_eq_true rfl, Nat.le_of_ble_eq_true rfl⟩) (fun r_1 w_2 H locs hw hB => ?_)
  obtain ⟨hr9, hw9⟩ := hw
  have hr9 := hr9.symm
  subst hr9
  have hw9 := hw9.symm
  subst hw9
  refine z_bf (b := (pTown T x)) (tgt := 16) hE dX9_far_5 (by decide) (fun c_3 => ?_) (fun c_3 => ?_)
  · refine lv_aload_n hE.x hE.b dX9_far_16 rfl (lv_at hl 0 rfl) ?_
    refine lv_bipush (v := (-2)) hE.x hE.b dX9_far_17 rfl ?_
    refine z_qi hB (z_cV hE hB (c_X9_bad l g o a F L A X (-2)) q4_91 kX9_bad ⟨rfl, rfl⟩ ⟨Nat.le_of_ble_eq_true rfl, Nat.le_of_ble_eq_true rfl⟩ 0 rfl rfl rfl hl.1 rfl (Nat.le_of_ble_eq_true rfl) dX9_far_19 ⟨Nat.le_of_ble_eq_true rfl, Nat.le_of_ble_eq_true rfl⟩) (fun r_4 w_5 H locs hw hB => ?_)
    obtain ⟨hr9, hw9⟩ := hw
    have hr9 := hr9.symm
    subst hr9
    have hw9 := hw9.symm
    subst hw9
    exact z_iret (v := (-2)) (ws := mW g o a F L (bump 0 A) ++ X) hE hB hr (⟨A 4, by unfold farR; simp [c_3], by unfold chk; simp only [c_3, Bool.and_false, Bool.false_and, Bool.false_eq_true, if_false]; rfl⟩) dX9_far_22
  · refine lv_aload_n hE.x hE.b dX9_far_8 rfl (lv_at hl 0 rfl) ?_
    refine lv_iload_n hE.x hE.b dX9_far_9 rfl (lv_at hl 2 rfl) ?_
    refine z_qi hB (z_cV hE hB (c_X9_isTown l g o a F L A X T y hT (by omega)) q4_106 kX9_isTown ⟨rfl, rfl⟩ ⟨Nat.le_of_ble_eq_true rfl, Nat.le_of_ble_eq_true rfl⟩ 0 rfl rfl rfl hl.1 rfl (Nat.le_of_ble_eq_true rfl) dX9_far_10 ⟨Nat.le_of_ble_eq_true rfl, Nat.le_of_ble_eq_true rfl⟩) (fun r_6 w_7 H locs hw hB => ?_)
    obtain ⟨hr9, hw9⟩ := hw
    have hr9 := hr9.symm
    subst hr9
    have hw9 := hw9.symm
    subst hw9
    refine z_bt (b := (pTown T y)) (tgt := 23) hE dX9_far_13 (by decide) (fun c_8 => ?_) (fun c_8 => ?_)
    · obtain ⟨i, hi, rfl⟩ := pTown_nI c_3 (by omega)
      obtain ⟨k, hk, rfl⟩ := pTown_nI c_8 (by omega)
      refine lv_aload_n hE.x hE.b dX9_far_23 rfl (lv_at hl 0 rfl) ?_
      refine lv_iload_n hE.x hE.b dX9_far_24 rfl (lv_at hl 1 rfl) ?_
      refine z_qv hB (z_cV hE hB (c_X9_layFar l g o a F L A X T C V U i hn (by omega)) q4_197 kX9_layFar ⟨rfl, rfl⟩ ⟨Nat.le_of_ble_eq_true rfl, Nat.le_of_ble_eq_true rfl⟩ 0 rfl rfl rfl hl.1 rfl (Nat.le_of_ble_eq_true rfl) dX9_far_25 ⟨Nat.le_of_ble_eq_true rfl, Nat.le_of_ble_eq_true rfl⟩) (fun w_10 H locs hw hB => ?_)
      obtain ⟨f1_11, hw9, hf_12⟩ := hw
      have hw9 := hw9.symm
      subst hw9
      have hfb := fD_le (n := A 0) (T := T) (fr := i) (x := k)
      refine lv_aload_n hE.x hE.b dX9_far_28 rfl (lv_at hl 0 rfl) ?_
      refine z_get (v := .ref (a 4)) hE hB inX9 0 rfl rfl 12 (by decide) q4_13 (fun _ h9 => h9) rfl dX9_far_29 ?_
      refine lv_iload_n hE.x hE.b dX9_far_32 rfl (lv_at hl 2 rfl) ?_
      refine z_iald (k := k) (f := f1_11) hE hB 5 rfl (by omega) (by decide) dX9_far_33 ?_
      refine z_top (y := (nI (fD (A 0) T i k))) (hf_12 k (by omega)) ?_
      refine lv_ldc (v := (nI 1000000)) hE.x hE.b hE.o (hE.t _ q4_201) dX9_far_34 ?_
      refine z_ge (tgt := 48) (X := (((fD (A 0) T i k) : Nat) : Int)) (Y := (1000000 : Int)) hE dX9_far_36 (by decide) (nI_toInt (n := (fD (A 0) T i k)) (by omega)) rfl (fun c_13 => ?_) (fun c_13 => ?_)
      · refine lv_iconst (v := (-1)) hE.x hE.b dX9_far_48 rfl ?_
        exact z_iret (v := (-1)) (ws := mW g o a F L (updA A 4 f1_11) ++ X) hE hB hr (⟨f1_11, by unfold farR; rw [c_3, c_8, rcl (show i < 2 ^ 31 by omega), rcl (show k < 2 ^ 31 by omega), Bool.and_self, if_pos rfl, if_neg (by omega)], by unfold chk; rw [c_3, c_8]; rfl⟩) dX9_far_49
      · refine lv_aload_n hE.x hE.b dX9_far_39 rfl (lv_at hl 0 rfl) ?_
        refine z_get (v := .ref (a 4)) hE hB inX9 0 rfl rfl 12 (by decide) q4_13 (fun _ h9 => h9) rfl dX9_far_40 ?_
        refine lv_iload_n hE.x hE.b dX9_far_43 rfl (lv_at hl 2 rfl) ?_
        refine z_iald (k := k) (f := f1_11) hE hB 5 rfl (by omega) (by decide) dX9_far_44 ?_
        refine z_top (y := (nI (fD (A 0) T i k))) (hf_12 k (by omega)) ?_
        refine lv_goto (tgt := 49) hE.x hE.b dX9_far_45 (by decide) ?_
        exact z_iret (v := (nI (fD (A 0) T i k))) (ws := mW g o a F L (updA A 4 f1_11) ++ X) hE hB hr (⟨f1_11, by unfold farR; rw [c_3, c_8, rcl (show i < 2 ^ 31 by omega), rcl (show k < 2 ^ 31 by omega), Bool.and_self, if_pos rfl, if_pos (by omega)], by unfold chk; rw [c_3, c_8]; rfl⟩) dX9_far_49
    · refine lv_aload_n hE.x hE.b dX9_far_16 rfl (lv_at hl 0 rfl) ?_
      refine lv_bipush (v := (-2)) hE.x hE.b dX9_far_17 rfl ?_
      refine z_qi hB (z_cV hE hB (c_X9_bad l g o a F L A X (-2)) q4_91 kX9_bad ⟨rfl, rfl⟩ ⟨Nat.le_of_ble_eq_true rfl, Nat.le_of_ble_eq_true rfl⟩ 0 rfl rfl rfl hl.1 rfl (Nat.le_of_ble_eq_true rfl) dX9_far_19 ⟨Nat.le_of_ble_eq_true rfl, Nat.le_of_ble_eq_true rfl⟩) (fun r_14 w_15 H locs hw hB => ?_)
      obtain ⟨hr9, hw9⟩ := hw
      have hr9 := hr9.symm
      subst hr9
      have hw9 := hw9.symm
      subst hw9
      exact z_iret (v := (-2)) (ws := mW g o a F L (bump 0 A) ++ X) hE hB hr (⟨A 4, by unfold farR; simp [c_3, c_8], by unfold chk; simp only [c_3, c_8, Bool.and_false, Bool.false_and, Bool.false_eq_true, if_false]; rfl⟩) dX9_far_22

set_option maxHeartbeats 4000000 in
set_option maxRecDepth 100000 in
theorem c_X9_nearest (l : Launch) (g : zG) (o : Nat) (a : Nat → Nat) (F : Nat → Int32) (L : Nat → Int64) (A : Nat → Nat → Int32) (X : va_W) (T : Nat) (C : Nat) (V : Nat) (U : Nat) (tw : Int32) (ac : Int32) (dd : Int32) (dy : Int32) (sh : Int32) (w : Int32) (hn : nOK (A 0) T C V U) : Met l yX9_nearest (Cond.code yX9_nearest cX9_nearest 11 (some .int) :: TBL) { frames := 6, cells := 0, slots := 0, locals := 154 } (zPc [.ref o, .int tw, .int ac, .int dd, .int dy, .int sh, .int w] g (mW g o a F L A ++ X)) (zQi g (fun r ws => ∃ (F2 : Nat → Int32) (f1 : Nat → Int32), r = (nearestR (A 0) T C tw ac dd dy sh w) ∧ ws = mW g o a F2 L (updA (chk (askOK T tw ac dd dy sh && pIn 0 2 w) A) 4 f1) ++ X ∧ F2 16 = F 16)) 0 0 (zA (gz g)) := by
  refine z_start (by decide +kernel) rfl (Nat.le_of_ble_eq_true rfl) ?_
  intro p e s m args below meth c ls hE hr hnm hB hl
  have hl : lv_has ls 11 [(0, .ref o), (1, .int tw), (2, .int ac), (3, .int dd), (4, .int dy), (5, .int sh), (6, .int w)] := hl
  revert hB
  generalize s.heap = H
  generalize ([] : List Loc) = locs
  intro hB
  have hT := hn.T
  have hT6 := hn.T6
  have hC := hn.C
  have hC8 := hn.C8
  have hV := hn.V
  have hV8 := hn.V8
  have hU := hn.U
  have hU8 := hn.U8
  have h16 : F 16 = F 16 := rfl
  refine lv_aload_n hE.x hE.b dX9_nearest_0 rfl (lv_at hl 0 rfl) ?_
  refine lv_iload_n hE.x hE.b dX9_nearest_1 rfl (lv_at hl 1 rfl) ?_
  refine z_qi hB (z_cV hE hB (c_X9_isTown l g o a F L A X T tw hT (by omega)) q4_106 kX9_isTown ⟨rfl, rfl⟩ ⟨Nat.le_of_ble_eq_true rfl, Nat.le_of_ble_eq_true rfl⟩ 0 rfl rfl rfl hl.1 rfl (Nat.le_of_ble_eq_true rfl) dX9_nearest_2 ⟨Nat.le_of_ble_eq_true rfl, Nat.le_of_ble_eq_true rfl⟩) (fun r_1 w_2 H locs hw hB => ?_)
  obtain ⟨hr9, hw9⟩ := hw
  have hr9 := hr9.symm
  subst hr9
  have hw9 := hw9.symm
  subst hw9
  refine z_bf (b := (pTown T tw)) (tgt := 45) hE dX9_nearest_5 (by decide) (fun c_3 => ?_) (fun c_3 => ?_)
  · refine lv_aload_n hE.x hE.b dX9_nearest_45 rfl (lv_at hl 0 rfl) ?_
    refine lv_bipush (v := (-2)) hE.x hE.b dX9_nearest_46 rfl ?_
    refine z_qi hB (z_cV hE hB (c_X9_bad l g o a F L A X (-2)) q4_91 kX9_bad ⟨rfl, rfl⟩ ⟨Nat.le_of_ble_eq_true rfl, Nat.le_of_ble_eq_true rfl⟩ 0 rfl rfl rfl hl.1 rfl (Nat.le_of_ble_eq_true rfl) dX9_nearest_48 ⟨Nat.le_of_ble_eq_true rfl, Nat.le_of_ble_eq_true rfl⟩) (fun r_4 w_5 H locs hw hB => ?_)
    obtain ⟨hr9, hw9⟩ := hw
    have hr9 := hr9.symm
    subst hr9
    have hw9 := hw9.symm
    subst hw9
    exact z_iret (v := (-2)) (ws := mW g o a F L (bump 0 A) ++ X) hE hB hr (⟨F, A 4, by unfold nearestR askOK; simp [c_3], by unfold chk askOK; simp only [c_3, Bool.and_false, Bool.false_and, Bool.false_eq_true, if_false, Bool.and_true]; rfl, rfl⟩) dX9_nearest_51
  · refine lv_iload_n hE.x hE.b dX9_nearest_8 rfl (lv_at hl 2 rfl) ?_
    refine z_qi hB (z_cS hE hB (c_X9_isAct l g ac (mW g o a F L A ++ X)) q4_119 kX9_isAct ⟨rfl, rfl⟩ ⟨Nat.le_of_ble_eq_true rfl, Nat.le_of_ble_eq_true rfl⟩ rfl hl.1 rfl (Nat.le_of_ble_eq_true rfl) dX9_nearest_9 ⟨Nat.le_of_ble_eq_true rfl, Nat.le_of_ble_eq_true rfl⟩) (fun r_6 w_7 H locs hw hB => ?_)
    obtain ⟨hr9, hw9⟩ := hw
    have hr9 := hr9.symm
    subst hr9
    have hw9 := hw9.symm
    subst hw9
    refine z_bf (b := (pIn 0 5 ac)) (tgt := 45) hE dX9_nearest_12 (by decide) (fun c_8 => ?_) (fun c_8 => ?_)
    · refine lv_aload_n hE.x hE.b dX9_nearest_45 rfl (lv_at hl 0 rfl) ?_
      refine lv_bipush (v := (-2)) hE.x hE.b dX9_nearest_46 rfl ?_
      refine z_qi hB (z_cV hE hB (c_X9_bad l g o a F L A X (-2)) q4_91 kX9_bad ⟨rfl, rfl⟩ ⟨Nat.le_of_ble_eq_true rfl, Nat.le_of_ble_eq_true rfl⟩ 0 rfl rfl rfl hl.1 rfl (Nat.le_of_ble_eq_true rfl) dX9_nearest_48 ⟨Nat.le_of_ble_eq_true rfl, Nat.le_of_ble_eq_true rfl⟩) (fun r_9 w_10 H locs hw hB => ?_)
      obtain ⟨hr9, hw9⟩ := hw
      have hr9 := hr9.symm
      subst hr9
      have hw9 := hw9.symm
      subst hw9
      exact z_iret (v := (-2)) (ws := mW g o a F L (bump 0 A) ++ X) hE hB hr (⟨F, A 4, by unfold nearestR askOK; simp [c_3, c_8], by unfold chk askOK; simp only [c_3, c_8, Bool.and_false, Bool.false_and, Bool.false_eq_true, if_false, Bool.and_true]; rfl, rfl⟩) dX9_nearest_51
    · refine lv_iload_n hE.x hE.b dX9_nearest_15 rfl (lv_at hl 3 rfl) ?_
      refine z_qi hB (z_cS hE hB (c_X9_isDay l g dd (mW g o a F L A ++ X)) q4_170 kX9_isDay ⟨rfl, rfl⟩ ⟨Nat.le_of_ble_eq_true rfl, Nat.le_of_ble_eq_true rfl⟩ rfl hl.1 rfl (Nat.le_of_ble_eq_true rfl) dX9_nearest_16 ⟨Nat.le_of_ble_eq_true rfl, Nat.le_of_ble_eq_true rfl⟩) (fun r_11 w_12 H locs hw hB => ?_)
      obtain ⟨hr9, hw9⟩ := hw
      have hr9 := hr9.symm
      subst hr9
      have hw9 := hw9.symm
      subst hw9
      refine z_bf (b := (pIn 0 59 dd)) (tgt := 45) hE dX9_nearest_19 (by decide) (fun c_13 => ?_) (fun c_13 => ?_)
      · refine lv_aload_n hE.x hE.b dX9_nearest_45 rfl (lv_at hl 0 rfl) ?_
        refine lv_bipush (v := (-2)) hE.x hE.b dX9_nearest_46 rfl ?_
        refine z_qi hB (z_cV hE hB (c_X9_bad l g o a F L A X (-2)) q4_91 kX9_bad ⟨rfl, rfl⟩ ⟨Nat.le_of_ble_eq_true rfl, Nat.le_of_ble_eq_true rfl⟩ 0 rfl rfl rfl hl.1 rfl (Nat.le_of_ble_eq_true rfl) dX9_nearest_48 ⟨Nat.le_of_ble_eq_true rfl, Nat.le_of_ble_eq_true rfl⟩) (fun r_14 w_15 H locs hw hB => ?_)
        obtain ⟨hr9, hw9⟩ := hw
        have hr9 := hr9.symm
        subst hr9
        have hw9 := hw9.symm
        subst hw9
        exact z_iret (v := (-2)) (ws := mW g o a F L (bump 0 A) ++ X) hE hB hr (⟨F, A 4, by unfold nearestR askOK; simp [c_3, c_8, c_13], by unfold chk askOK; simp only [c_3, c_8, c_13, Bool.and_false, Bool.false_and, Bool.false_eq_true, if_false, Bool.and_true]; rfl, rfl⟩) dX9_nearest_51
      · refine lv_iload hE.x hE.b dX9_nearest_22 (lv_at hl 4 rfl) ?_
        refine lv_iload hE.x hE.b dX9_nearest_24 (lv_at hl 5 rfl) ?_
        refine z_qi hB (z_cS hE hB (c_X9_isAsker l g dy sh (mW g o a F L A ++ X)) q4_174 kX9_isAsker ⟨rfl, rfl⟩ ⟨Nat.le_of_ble_eq_true rfl, Nat.le_of_ble_eq_true rfl⟩ rfl hl.1 rfl (Nat.le_of_ble_eq_true rfl) dX9_nearest_26 ⟨Nat.le_of_ble_eq_true rfl, Nat.le_of_ble_eq_true rfl⟩) (fun r_16 w_17 H locs hw hB => ?_)
        obtain ⟨hr9, hw9⟩ := hw
        have hr9 := hr9.symm
        subst hr9
        have hw9 := hw9.symm
        subst hw9
        refine z_bf (b := (pIn 0 1 dy && pIn 0 1 sh)) (tgt := 45) hE dX9_nearest_29 (by decide) (fun c_18 => ?_) (fun c_18 => ?_)
        · refine lv_aload_n hE.x hE.b dX9_nearest_45 rfl (lv_at hl 0 rfl) ?_
          refine lv_bipush (v := (-2)) hE.x hE.b dX9_nearest_46 rfl ?_
          refine z_qi hB (z_cV hE hB (c_X9_bad l g o a F L A X (-2)) q4_91 kX9_bad ⟨rfl, rfl⟩ ⟨Nat.le_of_ble_eq_true rfl, Nat.le_of_ble_eq_true rfl⟩ 0 rfl rfl rfl hl.1 rfl (Nat.le_of_ble_eq_true rfl) dX9_nearest_48 ⟨Nat.le_of_ble_eq_true rfl, Nat.le_of_ble_eq_true rfl⟩) (fun r_19 w_20 H locs hw hB => ?_)
          obtain ⟨hr9, hw9⟩ := hw
          have hr9 := hr9.symm
          subst hr9
          have hw9 := hw9.symm
          subst hw9
          exact z_iret (v := (-2)) (ws := mW g o a F L (bump 0 A) ++ X) hE hB hr (⟨F, A 4, by unfold nearestR askOK; simp [c_3, c_8, c_13, c_18], by unfold chk askOK; simp only [c_3, c_8, c_13, c_18, Bool.and_false, Bool.false_and, Bool.false_eq_true, if_false, Bool.and_true]; rfl, rfl⟩) dX9_nearest_51
        · refine lv_iload hE.x hE.b dX9_nearest_32 (lv_at hl 6 rfl) ?_
          refine lv_i2l hE.x hE.b dX9_nearest_34 rfl ?_
          refine lv_lconst (v := lN 0) hE.x hE.b dX9_nearest_35 rfl ?_
          refine lv_ldc2 (v := lN 2) hE.x hE.b hE.o (hE.t _ q4_206) dX9_nearest_36 ?_
          refine z_qi hB (z_cS hE hB (c_X9_in l g (Int32.toInt64 w) (lN 0) (lN 2) (Int32.toInt w) 0 2 (mW g o a F L A ++ X) (Int32.toInt_toInt64 _) (by decide) (by decide)) q4_88 kX9_in ⟨rfl, rfl⟩ ⟨Nat.le_of_ble_eq_true rfl, Nat.le_of_ble_eq_true rfl⟩ rfl hl.1 rfl (Nat.le_of_ble_eq_true rfl) dX9_nearest_39 ⟨Nat.le_of_ble_eq_true rfl, Nat.le_of_ble_eq_true rfl⟩) (fun r_21 w_22 H locs hw hB => ?_)
          obtain ⟨hr9, hw9⟩ := hw
          have hr9 := hr9.symm
          subst hr9
          have hw9 := hw9.symm
          subst hw9
          refine z_bt (b := (inZ 0 2 (Int32.toInt w))) (tgt := 52) hE dX9_nearest_42 (by decide) (fun c_23 => ?_) (fun c_23 => ?_)
          · obtain ⟨tn, htn, rfl⟩ := pTown_nI c_3 (by omega)
            obtain ⟨dn, hdn, rfl⟩ := pIn_nI (hi := 59) c_13 (by omega)
            refine lv_aload_n hE.x hE.b dX9_nearest_52 rfl (lv_at hl 0 rfl) ?_
            refine lv_iload_n hE.x hE.b dX9_nearest_53 rfl (lv_at hl 1 rfl) ?_
            refine z_qv hB (z_cV hE hB (c_X9_layFar l g o a F L A X T C V U tn hn (by omega)) q4_197 kX9_layFar ⟨rfl, rfl⟩ ⟨Nat.le_of_ble_eq_true rfl, Nat.le_of_ble_eq_true rfl⟩ 0 rfl rfl rfl hl.1 rfl (Nat.le_of_ble_eq_true rfl) dX9_nearest_54 ⟨Nat.le_of_ble_eq_true rfl, Nat.le_of_ble_eq_true rfl⟩) (fun w_25 H locs hw hB => ?_)
            obtain ⟨f1_26, hw9, hf_27⟩ := hw
            have hw9 := hw9.symm
            subst hw9
            refine lv_iload_n hE.x hE.b dX9_nearest_57 rfl (lv_at hl 3 rfl) ?_
            refine lv_istore (lv' := [(7, .int (nI dn)), (0, .ref o), (1, .int (nI tn)), (2, .int ac), (3, .int (nI dn)), (4, .int dy), (5, .int sh), (6, .int w)]) hE.x hE.b dX9_nearest_58 hl (by decide) rfl (fun ls hl => ?_)
            have k60 : ∀ (fu : Nat) (d : Nat) (F1 : Nat → Int32) (H : Heap) (locs : List Loc) (ls : Array Slot), 60 - d < fu → (d ≤ 60) → (dn ≤ d) → (F1 16 = F 16) → (nrS (nrP (A 0) T C tn ac dn dy sh) (60 - dn) dn = nrS (nrP (A 0) T C tn ac dn dy sh) (60 - d) d) → zB g s (mW g o a F1 L (updA A 4 f1_26) ++ X) H locs → lv_has ls 11 [(7, .int (nI d)), (0, .ref o), (1, .int (nI tn)), (2, .int ac), (3, .int (nI dn)), (4, .int dy), (5, .int sh), (6, .int w)] → W p l e { frames := 6, cells := 0, slots := 0, locals := 154 } s m args below meth c H locs 0 0 (MQ below (zQi g (fun r ws => ∃ (F2 : Nat → Int32) (f1 : Nat → Int32), r = (nearestR (A 0) T C (nI tn) ac (nI dn) dy sh w) ∧ ws = mW g o a F2 L (updA (chk (askOK T (nI tn) ac (nI dn) dy sh && pIn 0 2 w) A) 4 f1) ++ X ∧ F2 16 = F 16)) args s 0 0 (zA (gz g))) (F0 m 60 ls []) := by
              intro fu
              induction fu with
              | zero => intro d F1 H locs ls hfu hd hdd h16 hS hB hl; exact absurd hfu (Nat.not_lt_zero _)
              | succ fu ih60 =>
                intro d F1 H locs ls hfu hd hdd h16 hS hB hl
                refine lv_iload hE.x hE.b dX9_nearest_60 (lv_at hl 0 rfl) ?_
                refine lv_bipush (v := (nI 60)) hE.x hE.b dX9_nearest_62 rfl ?_
                refine z_ge (tgt := 204) (X := ((d : Nat) : Int)) (Y := (60 : Int)) hE dX9_nearest_64 (by decide) (nI_toInt (n := d) (by omega)) rfl (fun c_28 => ?_) (fun c_28 => ?_)
                · refine lv_iconst (v := (-1)) hE.x hE.b dX9_nearest_204 rfl ?_
                  exact z_iret (v := (-1)) (ws := mW g o a F1 L (updA A 4 f1_26) ++ X) hE hB hr (⟨F1, f1_26, by unfold nearestR askOK; simp only [c_3, c_8, c_13, c_18, c_23, Bool.and_true, if_true, rcl (show tn < 2 ^ 31 by omega), rcl (show dn < 2 ^ 31 by omega)]; rw [hS, show 60 - d = 0 by omega]; rfl, by unfold chk askOK; simp only [c_3, c_8, c_13, c_18, c_23, Bool.and_true, if_true], h16⟩) dX9_nearest_205
                · refine lv_iconst (v := (-1)) hE.x hE.b dX9_nearest_67 rfl ?_
                  refine lv_istore (lv' := [(8, .int (-1)), (7, .int (nI d)), (0, .ref o), (1, .int (nI tn)), (2, .int ac), (3, .int (nI dn)), (4, .int dy), (5, .int sh), (6, .int w)]) hE.x hE.b dX9_nearest_68 hl (by decide) rfl (fun ls hl => ?_)
                  refine lv_iconst (v := nI 0) hE.x hE.b dX9_nearest_70 rfl ?_
                  refine lv_istore (lv' := [(9, .int (nI 0)), (8, .int (-1)), (7, .int (nI d)), (0, .ref o), (1, .int (nI tn)), (2, .int ac), (3, .int (nI dn)), (4, .int dy), (5, .int sh), (6, .int w)]) hE.x hE.b dX9_nearest_71 hl (by decide) rfl (fun ls hl => ?_)
                  have k73 : ∀ (fu : Nat) (b : Option Nat) (k : Nat) (F1 : Nat → Int32) (H : Heap) (locs : List Loc) (ls : Array Slot), T - k < fu → (k ≤ T) → (F1 16 = F 16) → (b = nrT (fun t => isA (A 0) C t ac (nI d) dy sh 0) (fD (A 0) T tn) (d - dn) k) → zB g s (mW g o a F1 L (updA A 4 f1_26) ++ X) H locs → lv_has ls 11 [(9, .int (nI k)), (8, .int (oI b)), (7, .int (nI d)), (0, .ref o), (1, .int (nI tn)), (2, .int ac), (3, .int (nI dn)), (4, .int dy), (5, .int sh), (6, .int w)] → W p l e { frames := 6, cells := 0, slots := 0, locals := 154 } s m args below meth c H locs 0 0 (MQ below (zQi g (fun r ws => ∃ (F2 : Nat → Int32) (f1 : Nat → Int32), r = (nearestR (A 0) T C (nI tn) ac (nI dn) dy sh w) ∧ ws = mW g o a F2 L (updA (chk (askOK T (nI tn) ac (nI dn) dy sh && pIn 0 2 w) A) 4 f1) ++ X ∧ F2 16 = F 16)) args s 0 0 (zA (gz g))) (F0 m 73 ls []) := by
                    intro fu
                    induction fu with
                    | zero => intro b k F1 H locs ls hfu hk h16 hb hB hl; exact absurd hfu (Nat.not_lt_zero _)
                    | succ fu ih73 =>
                      intro b k F1 H locs ls hfu hk h16 hb hB hl
                      refine lv_iload hE.x hE.b dX9_nearest_73 (lv_at hl 0 rfl) ?_
                      refine lv_aload_n hE.x hE.b dX9_nearest_75 rfl (lv_at hl 3 rfl) ?_
                      refine z_qi hB (z_cV hE hB (c_X9_towns l g o a F1 L (updA A 4 f1_26) X T hT) q4_76 kX9_towns ⟨rfl, rfl⟩ ⟨Nat.le_of_ble_eq_true rfl, Nat.le_of_ble_eq_true rfl⟩ 0 rfl rfl rfl hl.1 rfl (Nat.le_of_ble_eq_true rfl) dX9_nearest_76 ⟨Nat.le_of_ble_eq_true rfl, Nat.le_of_ble_eq_true rfl⟩) (fun r_29 w_30 H locs hw hB => ?_)
                      obtain ⟨hr9, hw9⟩ := hw
                      have hr9 := hr9.symm
                      subst hr9
                      have hw9 := hw9.symm
                      subst hw9
                      refine z_ge (tgt := 163) (X := ((k : Nat) : Int)) (Y := ((T : Nat) : Int)) hE dX9_nearest_79 (by decide) (nI_toInt (n := k) (by omega)) (nI_toInt (n := T) (by omega)) (fun c_31 => ?_) (fun c_31 => ?_)
                      · refine lv_iload hE.x hE.b dX9_nearest_163 (lv_at hl 1 rfl) ?_
                        refine lv_iconst (v := (-1)) hE.x hE.b dX9_nearest_165 rfl ?_
                        refine lv_icmp_eq (tgt := 198) hE.x hE.b dX9_nearest_166 (by decide) (fun c_32 => ?_) (fun c_32 => ?_)
                        · refine lv_iinc (v := (nI (d + 1))) (lv' := [(7, .int (nI (d + 1))), (9, .int (nI k)), (8, .int (oI b)), (0, .ref o), (1, .int (nI tn)), (2, .int ac), (3, .int (nI dn)), (4, .int dy), (5, .int sh), (6, .int w)]) hE.x hE.b dX9_nearest_198 hl (k := 2) rfl (nI_add _ _) (by decide) rfl (fun ls hl => ?_)
                          refine lv_goto (tgt := 60) hE.x hE.b dX9_nearest_201 (by decide) ?_
                          exact ih60 (d + 1) F1 _ _ _ (by omega) (by omega) (by omega) h16 (hS.trans (nrS_no (by omega) (by unfold nrP; rw [show k = T by omega] at hb; rw [← hb]; exact oI_none c_32 (fun q hq => by have := nrT_lt (hb.symm.trans hq); omega)))) hB (lv_sub hl [0, 3, 4, 5, 6, 7, 8, 9] rfl)
                        · have hbT := hb
                          rw [show k = T by omega] at hbT
                          obtain ⟨q, rfl⟩ := oI_some c_32
                          have hqk := nrT_lt hb.symm
                          have hl : lv_has ls 11 [(9, .int (nI k)), (8, .int (nI q)), (7, .int (nI d)), (0, .ref o), (1, .int (nI tn)), (2, .int ac), (3, .int (nI dn)), (4, .int dy), (5, .int sh), (6, .int w)] := hl
                          have hfq := fD_le (n := A 0) (T := T) (fr := tn) (x := q)
                          have hday : nrP (A 0) T C tn ac dn dy sh d = some q := hbT.symm
                          refine lv_iload hE.x hE.b dX9_nearest_169 (lv_at hl 9 rfl) ?_
                          refine lv_if_ne (tgt := 179) hE.x hE.b dX9_nearest_171 (by decide) (fun c_33 => ?_) (fun c_33 => ?_)
                          · refine lv_iload hE.x hE.b dX9_nearest_179 (lv_at hl 9 rfl) ?_
                            refine lv_iconst (v := nI 1) hE.x hE.b dX9_nearest_181 rfl ?_
                            refine lv_icmp_ne (tgt := 190) hE.x hE.b dX9_nearest_182 (by decide) (fun c_34 => ?_) (fun c_34 => ?_)
                            · refine lv_aload_n hE.x hE.b dX9_nearest_190 rfl (lv_at hl 3 rfl) ?_
                              refine z_get (v := .ref (a 4)) hE hB inX9 0 rfl rfl 12 (by decide) q4_13 (fun _ h9 => h9) rfl dX9_nearest_191 ?_
                              refine lv_iload hE.x hE.b dX9_nearest_194 (lv_at hl 1 rfl) ?_
                              refine z_iald (k := q) (f := f1_26) hE hB 5 rfl (by omega) (by decide) dX9_nearest_196 ?_
                              refine z_top (y := (nI (fD (A 0) T tn q))) (hf_27 q (by omega)) ?_
                              exact z_iret (v := (nI (fD (A 0) T tn q))) (ws := mW g o a F1 L (updA A 4 f1_26) ++ X) hE hB hr (⟨F1, f1_26, by unfold nearestR askOK; simp only [c_3, c_8, c_13, c_18, c_23, Bool.and_true, if_true, rcl (show tn < 2 ^ 31 by omega), rcl (show dn < 2 ^ 31 by omega)]; rw [hS, nrS_yes (q := q) (by omega) hday]; simp only; rw [if_neg c_33, if_neg c_34], by unfold chk askOK; simp only [c_3, c_8, c_13, c_18, c_23, Bool.and_true, if_true], h16⟩) dX9_nearest_197
                            · refine lv_iload hE.x hE.b dX9_nearest_185 (lv_at hl 1 rfl) ?_
                              refine lv_goto (tgt := 197) hE.x hE.b dX9_nearest_187 (by decide) ?_
                              exact z_iret (v := (nI q)) (ws := mW g o a F1 L (updA A 4 f1_26) ++ X) hE hB hr (⟨F1, f1_26, by unfold nearestR askOK; simp only [c_3, c_8, c_13, c_18, c_23, Bool.and_true, if_true, rcl (show tn < 2 ^ 31 by omega), rcl (show dn < 2 ^ 31 by omega)]; rw [hS, nrS_yes (q := q) (by omega) hday]; simp only; rw [if_neg c_33, if_pos c_34], by unfold chk askOK; simp only [c_3, c_8, c_13, c_18, c_23, Bool.and_true, if_true], h16⟩) dX9_nearest_197
                          · refine lv_iload hE.x hE.b dX9_nearest_174 (lv_at hl 2 rfl) ?_
                            refine lv_goto (tgt := 197) hE.x hE.b dX9_nearest_176 (by decide) ?_
                            exact z_iret (v := (nI d)) (ws := mW g o a F1 L (updA A 4 f1_26) ++ X) hE hB hr (⟨F1, f1_26, by unfold nearestR askOK; simp only [c_3, c_8, c_13, c_18, c_23, Bool.and_true, if_true, rcl (show tn < 2 ^ 31 by omega), rcl (show dn < 2 ^ 31 by omega)]; rw [hS, nrS_yes (q := q) (by omega) hday]; simp only; rw [if_pos c_33], by unfold chk askOK; simp only [c_3, c_8, c_13, c_18, c_23, Bool.and_true, if_true], h16⟩) dX9_nearest_197
                      · have k124 : ∀ (mm : Bool) (H : Heap) (locs : List Loc) (ls : Array Slot), (mm = true ↔ (fD (A 0) T tn k ≤ d - dn ∧ ∀ q, b = some q → fD (A 0) T tn k < fD (A 0) T tn q)) → zB g s (mW g o a F1 L (updA A 4 f1_26) ++ X) H locs → lv_has ls 11 [(9, .int (nI k)), (8, .int (oI b)), (7, .int (nI d)), (0, .ref o), (1, .int (nI tn)), (2, .int ac), (3, .int (nI dn)), (4, .int dy), (5, .int sh), (6, .int w)] → W p l e { frames := 6, cells := 0, slots := 0, locals := 154 } s m args below meth c H locs 0 0 (MQ below (zQi g (fun r ws => ∃ (F2 : Nat → Int32) (f1 : Nat → Int32), r = (nearestR (A 0) T C (nI tn) ac (nI dn) dy sh w) ∧ ws = mW g o a F2 L (updA (chk (askOK T (nI tn) ac (nI dn) dy sh && pIn 0 2 w) A) 4 f1) ++ X ∧ F2 16 = F 16)) args s 0 0 (zA (gz g))) (F0 m 124 ls [.int (bI mm)]) := by
                          intro mm H locs ls hm hB hl
                          refine lv_istore (lv' := [(10, .int (bI mm)), (9, .int (nI k)), (8, .int (oI b)), (7, .int (nI d)), (0, .ref o), (1, .int (nI tn)), (2, .int ac), (3, .int (nI dn)), (4, .int dy), (5, .int sh), (6, .int w)]) hE.x hE.b dX9_nearest_124 hl (by decide) rfl (fun ls hl => ?_)
                          refine lv_iload hE.x hE.b dX9_nearest_126 (lv_at hl 0 rfl) ?_
                          refine z_bf (b := mm) (tgt := 153) hE dX9_nearest_128 (by decide) (fun c_35 => ?_) (fun c_35 => ?_)
                          · refine lv_iload hE.x hE.b dX9_nearest_153 (lv_at hl 2 rfl) ?_
                            refine lv_istore (lv' := [(8, .int (oI b)), (10, .int (bI mm)), (9, .int (nI k)), (7, .int (nI d)), (0, .ref o), (1, .int (nI tn)), (2, .int ac), (3, .int (nI dn)), (4, .int dy), (5, .int sh), (6, .int w)]) hE.x hE.b dX9_nearest_155 hl (by decide) rfl (fun ls hl => ?_)
                            refine lv_iinc (v := (nI (k + 1))) (lv' := [(9, .int (nI (k + 1))), (8, .int (oI b)), (10, .int (bI mm)), (7, .int (nI d)), (0, .ref o), (1, .int (nI tn)), (2, .int ac), (3, .int (nI dn)), (4, .int dy), (5, .int sh), (6, .int w)]) hE.x hE.b dX9_nearest_157 hl (k := 2) rfl (nI_add _ _) (by decide) rfl (fun ls hl => ?_)
                            refine lv_goto (tgt := 73) hE.x hE.b dX9_nearest_160 (by decide) ?_
                            exact ih73 b (k + 1) F1 _ _ _ (by omega) (by omega) h16 (nrT_no hb (Or.inl (fun z => by have := hm.mpr z; rw [this] at c_35; cases c_35))) hB (lv_sub hl [0, 1, 3, 4, 5, 6, 7, 8, 9, 10] rfl)
                          · refine lv_aload_n hE.x hE.b dX9_nearest_131 rfl (lv_at hl 4 rfl) ?_
                            refine lv_iload hE.x hE.b dX9_nearest_132 (lv_at hl 1 rfl) ?_
                            refine lv_iload_n hE.x hE.b dX9_nearest_134 rfl (lv_at hl 6 rfl) ?_
                            refine lv_iload hE.x hE.b dX9_nearest_135 (lv_at hl 3 rfl) ?_
                            refine lv_iload hE.x hE.b dX9_nearest_137 (lv_at hl 8 rfl) ?_
                            refine lv_iload hE.x hE.b dX9_nearest_139 (lv_at hl 9 rfl) ?_
                            refine lv_iconst (v := nI 0) hE.x hE.b dX9_nearest_141 rfl ?_
                            refine z_qi hB (z_cV hE hB (c_X9_isAllowed l g o a F1 L (updA A 4 f1_26) X C k ac (nI d) dy sh 0 hC (by omega) (by omega) (by omega)) q4_207 kX9_isAllowed ⟨rfl, rfl⟩ ⟨Nat.le_of_ble_eq_true rfl, Nat.le_of_ble_eq_true rfl⟩ 0 rfl rfl rfl hl.1 rfl (Nat.le_of_ble_eq_true rfl) dX9_nearest_142 ⟨Nat.le_of_ble_eq_true rfl, Nat.le_of_ble_eq_true rfl⟩) (fun r_36 w_37 H locs hw hB => ?_)
                            obtain ⟨F1_38, hr9, hw9, hf_39⟩ := hw
                            have hr9 := hr9.symm
                            subst hr9
                            have hw9 := hw9.symm
                            subst hw9
                            have h16 := hf_39.trans h16
                            refine z_bf (b := (isA (A 0) C k ac (nI d) dy sh 0)) (tgt := 153) hE dX9_nearest_145 (by decide) (fun c_40 => ?_) (fun c_40 => ?_)
                            · refine lv_iload hE.x hE.b dX9_nearest_153 (lv_at hl 2 rfl) ?_
                              refine lv_istore (lv' := [(8, .int (oI b)), (10, .int (bI mm)), (9, .int (nI k)), (7, .int (nI d)), (0, .ref o), (1, .int (nI tn)), (2, .int ac), (3, .int (nI dn)), (4, .int dy), (5, .int sh), (6, .int w)]) hE.x hE.b dX9_nearest_155 hl (by decide) rfl (fun ls hl => ?_)
                              refine lv_iinc (v := (nI (k + 1))) (lv' := [(9, .int (nI (k + 1))), (8, .int (oI b)), (10, .int (bI mm)), (7, .int (nI d)), (0, .ref o), (1, .int (nI tn)), (2, .int ac), (3, .int (nI dn)), (4, .int dy), (5, .int sh), (6, .int w)]) hE.x hE.b dX9_nearest_157 hl (k := 2) rfl (nI_add _ _) (by decide) rfl (fun ls hl => ?_)
                              refine lv_goto (tgt := 73) hE.x hE.b dX9_nearest_160 (by decide) ?_
                              exact ih73 b (k + 1) F1_38 _ _ _ (by omega) (by omega) h16 (nrT_no hb (Or.inr c_40)) hB (lv_sub hl [0, 1, 3, 4, 5, 6, 7, 8, 9, 10] rfl)
                            · refine lv_iload hE.x hE.b dX9_nearest_148 (lv_at hl 1 rfl) ?_
                              refine lv_goto (tgt := 155) hE.x hE.b dX9_nearest_150 (by decide) ?_
                              refine lv_istore (lv' := [(8, .int (nI k)), (10, .int (bI mm)), (9, .int (nI k)), (7, .int (nI d)), (0, .ref o), (1, .int (nI tn)), (2, .int ac), (3, .int (nI dn)), (4, .int dy), (5, .int sh), (6, .int w)]) hE.x hE.b dX9_nearest_155 hl (by decide) rfl (fun ls hl => ?_)
                              refine lv_iinc (v := (nI (k + 1))) (lv' := [(9, .int (nI (k + 1))), (8, .int (nI k)), (10, .int (bI mm)), (7, .int (nI d)), (0, .ref o), (1, .int (nI tn)), (2, .int ac), (3, .int (nI dn)), (4, .int dy), (5, .int sh), (6, .int w)]) hE.x hE.b dX9_nearest_157 hl (k := 2) rfl (nI_add _ _) (by decide) rfl (fun ls hl => ?_)
                              refine lv_goto (tgt := 73) hE.x hE.b dX9_nearest_160 (by decide) ?_
                              exact ih73 (some k) (k + 1) F1_38 _ _ _ (by omega) (by omega) h16 (nrT_yes hb (hm.mp c_35) c_40) hB (lv_sub hl [0, 1, 3, 4, 5, 6, 7, 8, 9, 10] rfl)
                        have hfk := fD_le (n := A 0) (T := T) (fr := tn) (x := k)
                        refine lv_aload_n hE.x hE.b dX9_nearest_82 rfl (lv_at hl 3 rfl) ?_
                        refine z_get (v := .ref (a 4)) hE hB inX9 0 rfl rfl 12 (by decide) q4_13 (fun _ h9 => h9) rfl dX9_nearest_83 ?_
                        refine lv_iload hE.x hE.b dX9_nearest_86 (lv_at hl 0 rfl) ?_
                        refine z_iald (k := k) (f := f1_26) hE hB 5 rfl (by omega) (by decide) dX9_nearest_88 ?_
                        refine z_top (y := (nI (fD (A 0) T tn k))) (hf_27 k (by omega)) ?_
                        refine lv_iload hE.x hE.b dX9_nearest_89 (lv_at hl 2 rfl) ?_
                        refine lv_iload_n hE.x hE.b dX9_nearest_91 rfl (lv_at hl 6 rfl) ?_
                        refine z_isubN hE (by omega) dX9_nearest_92 ?_
                        refine z_gt (tgt := 123) (X := (((fD (A 0) T tn k) : Nat) : Int)) (Y := (((d - dn) : Nat) : Int)) hE dX9_nearest_93 (by decide) (nI_toInt (n := (fD (A 0) T tn k)) (by omega)) (nI_toInt (n := (d - dn)) (by omega)) (fun c_41 => ?_) (fun c_41 => ?_)
                        · refine lv_iconst (v := nI 0) hE.x hE.b dX9_nearest_123 rfl ?_
                          exact k124 false _ _ _ ⟨fun h => (by cases h), fun h => absurd h.1 (by omega)⟩ hB hl
                        · refine lv_iload hE.x hE.b dX9_nearest_96 (lv_at hl 1 rfl) ?_
                          refine lv_iconst (v := (-1)) hE.x hE.b dX9_nearest_98 rfl ?_
                          refine lv_icmp_eq (tgt := 119) hE.x hE.b dX9_nearest_99 (by decide) (fun c_42 => ?_) (fun c_42 => ?_)
                          · refine lv_iconst (v := nI 1) hE.x hE.b dX9_nearest_119 rfl ?_
                            refine lv_goto (tgt := 124) hE.x hE.b dX9_nearest_120 (by decide) ?_
                            exact k124 true _ _ _ ⟨fun _ => ⟨by omega, fun q hq => (by rw [oI_none c_42 (fun q hq => by have := nrT_lt (hb.symm.trans hq); omega)] at hq; cases hq)⟩, fun _ => rfl⟩ hB hl
                          · obtain ⟨q, rfl⟩ := oI_some c_42
                            have hqk := nrT_lt hb.symm
                            have hl : lv_has ls 11 [(9, .int (nI k)), (8, .int (nI q)), (7, .int (nI d)), (0, .ref o), (1, .int (nI tn)), (2, .int ac), (3, .int (nI dn)), (4, .int dy), (5, .int sh), (6, .int w)] := hl
                            have hfq := fD_le (n := A 0) (T := T) (fr := tn) (x := q)
                            refine lv_aload_n hE.x hE.b dX9_nearest_102 rfl (lv_at hl 3 rfl) ?_
                            refine z_get (v := .ref (a 4)) hE hB inX9 0 rfl rfl 12 (by decide) q4_13 (fun _ h9 => h9) rfl dX9_nearest_103 ?_
                            refine lv_iload hE.x hE.b dX9_nearest_106 (lv_at hl 0 rfl) ?_
                            refine z_iald (k := k) (f := f1_26) hE hB 5 rfl (by omega) (by decide) dX9_nearest_108 ?_
                            refine z_top (y := (nI (fD (A 0) T tn k))) (hf_27 k (by omega)) ?_
                            refine lv_aload_n hE.x hE.b dX9_nearest_109 rfl (lv_at hl 3 rfl) ?_
                            refine z_get (v := .ref (a 4)) hE hB inX9 0 rfl rfl 12 (by decide) q4_13 (fun _ h9 => h9) rfl dX9_nearest_110 ?_
                            refine lv_iload hE.x hE.b dX9_nearest_113 (lv_at hl 1 rfl) ?_
                            refine z_iald (k := q) (f := f1_26) hE hB 5 rfl (by omega) (by decide) dX9_nearest_115 ?_
                            refine z_top (y := (nI (fD (A 0) T tn q))) (hf_27 q (by omega)) ?_
                            refine z_ge (tgt := 123) (X := (((fD (A 0) T tn k) : Nat) : Int)) (Y := (((fD (A 0) T tn q) : Nat) : Int)) hE dX9_nearest_116 (by decide) (nI_toInt (n := (fD (A 0) T tn k)) (by omega)) (nI_toInt (n := (fD (A 0) T tn q)) (by omega)) (fun c_43 => ?_) (fun c_43 => ?_)
                            · refine lv_iconst (v := nI 0) hE.x hE.b dX9_nearest_123 rfl ?_
                              exact k124 false _ _ _ ⟨fun h => (by cases h), fun h => absurd (h.2 q rfl) (by omega)⟩ hB hl
                            · refine lv_iconst (v := nI 1) hE.x hE.b dX9_nearest_119 rfl ?_
                              refine lv_goto (tgt := 124) hE.x hE.b dX9_nearest_120 (by decide) ?_
                              exact k124 true _ _ _ ⟨fun _ => ⟨by omega, fun q2 hq2 => (by cases hq2; omega)⟩, fun _ => rfl⟩ hB hl
                  exact k73 (T - 0 + 1) none 0 F1 _ _ _ (Nat.lt_succ_self _) (by omega) h16 rfl hB hl
            exact k60 (60 - dn + 1) dn F _ _ _ (Nat.lt_succ_self _) (by omega) (by omega) h16 rfl hB hl
          · refine lv_aload_n hE.x hE.b dX9_nearest_45 rfl (lv_at hl 0 rfl) ?_
            refine lv_bipush (v := (-2)) hE.x hE.b dX9_nearest_46 rfl ?_
            refine z_qi hB (z_cV hE hB (c_X9_bad l g o a F L A X (-2)) q4_91 kX9_bad ⟨rfl, rfl⟩ ⟨Nat.le_of_ble_eq_true rfl, Nat.le_of_ble_eq_true rfl⟩ 0 rfl rfl rfl hl.1 rfl (Nat.le_of_ble_eq_true rfl) dX9_nearest_48 ⟨Nat.le_of_ble_eq_true rfl, Nat.le_of_ble_eq_true rfl⟩) (fun r_44 w_45 H locs hw hB => ?_)
            obtain ⟨hr9, hw9⟩ := hw
            have hr9 := hr9.symm
            subst hr9
            have hw9 := hw9.symm
            subst hw9
            exact z_iret (v := (-2)) (ws := mW g o a F L (bump 0 A) ++ X) hE hB hr (⟨F, A 4, by unfold nearestR askOK; simp [c_3, c_8, c_13, c_18, c_23], by unfold chk askOK; simp only [c_3, c_8, c_13, c_18, c_23, Bool.and_false, Bool.false_and, Bool.false_eq_true, if_false, Bool.and_true]; rfl, rfl⟩) dX9_nearest_51

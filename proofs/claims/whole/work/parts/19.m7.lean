theorem dX9_draw_0 : decode cX9_draw 0 = .ok (.aload_n 0, 1) := by decide +kernel
theorem dX9_draw_1 : decode cX9_draw 1 = .ok (.aload_n 0, 1) := by decide +kernel
theorem dX9_draw_2 : decode cX9_draw 2 = .ok (.getfield 199, 3) := by decide +kernel
theorem dX9_draw_5 : decode cX9_draw 5 = .ok (.ldc2_w 202, 3) := by decide +kernel
theorem dX9_draw_8 : decode cX9_draw 8 = .ok (.lmul, 1) := by decide +kernel
theorem dX9_draw_9 : decode cX9_draw 9 = .ok (.ldc2_w 204, 3) := by decide +kernel
theorem dX9_draw_12 : decode cX9_draw 12 = .ok (.ladd, 1) := by decide +kernel
theorem dX9_draw_13 : decode cX9_draw 13 = .ok (.ldc2_w 206, 3) := by decide +kernel
theorem dX9_draw_16 : decode cX9_draw 16 = .ok (.lrem, 1) := by decide +kernel
theorem dX9_draw_17 : decode cX9_draw 17 = .ok (.putfield 199, 3) := by decide +kernel
theorem dX9_draw_20 : decode cX9_draw 20 = .ok (.aload_n 0, 1) := by decide +kernel
theorem dX9_draw_21 : decode cX9_draw 21 = .ok (.getfield 199, 3) := by decide +kernel
theorem dX9_draw_24 : decode cX9_draw 24 = .ok (.ldc2_w 208, 3) := by decide +kernel
theorem dX9_draw_27 : decode cX9_draw 27 = .ok (.ldiv, 1) := by decide +kernel
theorem dX9_draw_28 : decode cX9_draw 28 = .ok (.iload_n 1, 1) := by decide +kernel
theorem dX9_draw_29 : decode cX9_draw 29 = .ok (.i2l, 1) := by decide +kernel
theorem dX9_draw_30 : decode cX9_draw 30 = .ok (.lrem, 1) := by decide +kernel
theorem dX9_draw_31 : decode cX9_draw 31 = .ok (.l2i, 1) := by decide +kernel
theorem dX9_draw_32 : decode cX9_draw 32 = .ok (.ireturn, 1) := by decide +kernel
theorem dX9_drawn_0 : decode cX9_drawn 0 = .ok (.iload_n 1, 1) := by decide +kernel
theorem dX9_drawn_1 : decode cX9_drawn 1 = .ok (.i2l, 1) := by decide +kernel
theorem dX9_drawn_2 : decode cX9_drawn 2 = .ok (.lconst 0, 1) := by decide +kernel
theorem dX9_drawn_3 : decode cX9_drawn 3 = .ok (.ldc2_w 210, 3) := by decide +kernel
theorem dX9_drawn_6 : decode cX9_drawn 6 = .ok (.invokestatic 43, 3) := by decide +kernel
theorem dX9_drawn_9 : decode cX9_drawn 9 = .ok (.ifCond .eq 15, 3) := by decide +kernel
theorem dX9_drawn_12 : decode cX9_drawn 12 = .ok (.iload_n 2, 1) := by decide +kernel
theorem dX9_drawn_13 : decode cX9_drawn 13 = .ok (.i2l, 1) := by decide +kernel
theorem dX9_drawn_14 : decode cX9_drawn 14 = .ok (.lconst 0, 1) := by decide +kernel
theorem dX9_drawn_15 : decode cX9_drawn 15 = .ok (.ldc2_w 86, 3) := by decide +kernel
theorem dX9_drawn_18 : decode cX9_drawn 18 = .ok (.invokestatic 43, 3) := by decide +kernel
theorem dX9_drawn_21 : decode cX9_drawn 21 = .ok (.ifCond .ne 10, 3) := by decide +kernel
theorem dX9_drawn_24 : decode cX9_drawn 24 = .ok (.aload_n 0, 1) := by decide +kernel
theorem dX9_drawn_25 : decode cX9_drawn 25 = .ok (.bipush (-2), 2) := by decide +kernel
theorem dX9_drawn_27 : decode cX9_drawn 27 = .ok (.invokevirtual 62, 3) := by decide +kernel
theorem dX9_drawn_30 : decode cX9_drawn 30 = .ok (.ireturn, 1) := by decide +kernel
theorem dX9_drawn_31 : decode cX9_drawn 31 = .ok (.aload_n 0, 1) := by decide +kernel
theorem dX9_drawn_32 : decode cX9_drawn 32 = .ok (.invokevirtual 39, 3) := by decide +kernel
theorem dX9_drawn_35 : decode cX9_drawn 35 = .ok (.ifCond .ne 5, 3) := by decide +kernel
theorem dX9_drawn_38 : decode cX9_drawn 38 = .ok (.iconst (-1), 1) := by decide +kernel
theorem dX9_drawn_39 : decode cX9_drawn 39 = .ok (.ireturn, 1) := by decide +kernel
theorem dX9_drawn_40 : decode cX9_drawn 40 = .ok (.aload_n 0, 1) := by decide +kernel
theorem dX9_drawn_41 : decode cX9_drawn 41 = .ok (.iload_n 1, 1) := by decide +kernel
theorem dX9_drawn_42 : decode cX9_drawn 42 = .ok (.i2l, 1) := by decide +kernel
theorem dX9_drawn_43 : decode cX9_drawn 43 = .ok (.putfield 199, 3) := by decide +kernel
theorem dX9_drawn_46 : decode cX9_drawn 46 = .ok (.iconst 0, 1) := by decide +kernel
theorem dX9_drawn_47 : decode cX9_drawn 47 = .ok (.istore_n 3, 1) := by decide +kernel
theorem dX9_drawn_48 : decode cX9_drawn 48 = .ok (.iconst 0, 1) := by decide +kernel
theorem dX9_drawn_49 : decode cX9_drawn 49 = .ok (.istore 4, 2) := by decide +kernel
theorem dX9_drawn_51 : decode cX9_drawn 51 = .ok (.iload 4, 2) := by decide +kernel
theorem dX9_drawn_53 : decode cX9_drawn 53 = .ok (.iload_n 2, 1) := by decide +kernel
theorem dX9_drawn_54 : decode cX9_drawn 54 = .ok (.if_icmp .ge 72, 3) := by decide +kernel
theorem dX9_drawn_57 : decode cX9_drawn 57 = .ok (.aload_n 0, 1) := by decide +kernel
theorem dX9_drawn_58 : decode cX9_drawn 58 = .ok (.aload_n 0, 1) := by decide +kernel
theorem dX9_drawn_59 : decode cX9_drawn 59 = .ok (.invokevirtual 39, 3) := by decide +kernel
theorem dX9_drawn_62 : decode cX9_drawn 62 = .ok (.invokevirtual 212, 3) := by decide +kernel
theorem dX9_drawn_65 : decode cX9_drawn 65 = .ok (.istore 5, 2) := by decide +kernel
theorem dX9_drawn_67 : decode cX9_drawn 67 = .ok (.aload_n 0, 1) := by decide +kernel
theorem dX9_drawn_68 : decode cX9_drawn 68 = .ok (.bipush 6, 2) := by decide +kernel
theorem dX9_drawn_70 : decode cX9_drawn 70 = .ok (.invokevirtual 212, 3) := by decide +kernel
theorem dX9_drawn_73 : decode cX9_drawn 73 = .ok (.istore 6, 2) := by decide +kernel
theorem dX9_drawn_75 : decode cX9_drawn 75 = .ok (.aload_n 0, 1) := by decide +kernel
theorem dX9_drawn_76 : decode cX9_drawn 76 = .ok (.bipush 60, 2) := by decide +kernel
theorem dX9_drawn_78 : decode cX9_drawn 78 = .ok (.invokevirtual 212, 3) := by decide +kernel
theorem dX9_drawn_81 : decode cX9_drawn 81 = .ok (.istore 7, 2) := by decide +kernel
theorem dX9_drawn_83 : decode cX9_drawn 83 = .ok (.aload_n 0, 1) := by decide +kernel
theorem dX9_drawn_84 : decode cX9_drawn 84 = .ok (.iconst 4, 1) := by decide +kernel
theorem dX9_drawn_85 : decode cX9_drawn 85 = .ok (.invokevirtual 212, 3) := by decide +kernel
theorem dX9_drawn_88 : decode cX9_drawn 88 = .ok (.istore 8, 2) := by decide +kernel
theorem dX9_drawn_90 : decode cX9_drawn 90 = .ok (.iload_n 3, 1) := by decide +kernel
theorem dX9_drawn_91 : decode cX9_drawn 91 = .ok (.aload_n 0, 1) := by decide +kernel
theorem dX9_drawn_92 : decode cX9_drawn 92 = .ok (.iload 5, 2) := by decide +kernel
theorem dX9_drawn_94 : decode cX9_drawn 94 = .ok (.iload 6, 2) := by decide +kernel
theorem dX9_drawn_96 : decode cX9_drawn 96 = .ok (.iload 7, 2) := by decide +kernel
theorem dX9_drawn_98 : decode cX9_drawn 98 = .ok (.iload 8, 2) := by decide +kernel
theorem dX9_drawn_100 : decode cX9_drawn 100 = .ok (.iconst 2, 1) := by decide +kernel
theorem dX9_drawn_101 : decode cX9_drawn 101 = .ok (.idiv, 1) := by decide +kernel
theorem dX9_drawn_102 : decode cX9_drawn 102 = .ok (.iload 8, 2) := by decide +kernel
theorem dX9_drawn_104 : decode cX9_drawn 104 = .ok (.iconst 2, 1) := by decide +kernel
theorem dX9_drawn_105 : decode cX9_drawn 105 = .ok (.irem, 1) := by decide +kernel
theorem dX9_drawn_106 : decode cX9_drawn 106 = .ok (.iconst 0, 1) := by decide +kernel
theorem dX9_drawn_107 : decode cX9_drawn 107 = .ok (.invokevirtual 161, 3) := by decide +kernel
theorem dX9_drawn_110 : decode cX9_drawn 110 = .ok (.ifCond .eq 7, 3) := by decide +kernel
theorem dX9_drawn_113 : decode cX9_drawn 113 = .ok (.iconst 1, 1) := by decide +kernel
theorem dX9_drawn_114 : decode cX9_drawn 114 = .ok (.goto 4, 3) := by decide +kernel
theorem dX9_drawn_117 : decode cX9_drawn 117 = .ok (.iconst 0, 1) := by decide +kernel
theorem dX9_drawn_118 : decode cX9_drawn 118 = .ok (.iadd, 1) := by decide +kernel
theorem dX9_drawn_119 : decode cX9_drawn 119 = .ok (.istore_n 3, 1) := by decide +kernel
theorem dX9_drawn_120 : decode cX9_drawn 120 = .ok (.iinc 4 1, 3) := by decide +kernel
theorem dX9_drawn_123 : decode cX9_drawn 123 = .ok (.goto (-72), 3) := by decide +kernel
theorem dX9_drawn_126 : decode cX9_drawn 126 = .ok (.iload_n 3, 1) := by decide +kernel
theorem dX9_drawn_127 : decode cX9_drawn 127 = .ok (.ireturn, 1) := by decide +kernel
theorem dX9_type_0 : decode cX9_type 0 = .ok (.iload_n 1, 1) := by decide +kernel
theorem dX9_type_1 : decode cX9_type 1 = .ok (.i2l, 1) := by decide +kernel
theorem dX9_type_2 : decode cX9_type 2 = .ok (.lconst 0, 1) := by decide +kernel
theorem dX9_type_3 : decode cX9_type 3 = .ok (.ldc2_w 215, 3) := by decide +kernel
theorem dX9_type_6 : decode cX9_type 6 = .ok (.invokestatic 43, 3) := by decide +kernel
theorem dX9_type_9 : decode cX9_type 9 = .ok (.ifCond .ne 10, 3) := by decide +kernel
theorem dX9_type_12 : decode cX9_type 12 = .ok (.aload_n 0, 1) := by decide +kernel
theorem dX9_type_13 : decode cX9_type 13 = .ok (.bipush (-2), 2) := by decide +kernel
theorem dX9_type_15 : decode cX9_type 15 = .ok (.invokevirtual 62, 3) := by decide +kernel
theorem dX9_type_18 : decode cX9_type 18 = .ok (.ireturn, 1) := by decide +kernel
theorem dX9_type_19 : decode cX9_type 19 = .ok (.aload_n 0, 1) := by decide +kernel
theorem dX9_type_20 : decode cX9_type 20 = .ok (.getfield 217, 3) := by decide +kernel
theorem dX9_type_23 : decode cX9_type 23 = .ok (.sipush 150, 3) := by decide +kernel
theorem dX9_type_26 : decode cX9_type 26 = .ok (.if_icmp .ne 8, 3) := by decide +kernel
theorem dX9_type_29 : decode cX9_type 29 = .ok (.aload_n 0, 1) := by decide +kernel
theorem dX9_type_30 : decode cX9_type 30 = .ok (.invokevirtual 66, 3) := by decide +kernel
theorem dX9_type_33 : decode cX9_type 33 = .ok (.ireturn, 1) := by decide +kernel
theorem dX9_type_34 : decode cX9_type 34 = .ok (.aload_n 0, 1) := by decide +kernel
theorem dX9_type_35 : decode cX9_type 35 = .ok (.getfield 30, 3) := by decide +kernel
theorem dX9_type_38 : decode cX9_type 38 = .ok (.aload_n 0, 1) := by decide +kernel
theorem dX9_type_39 : decode cX9_type 39 = .ok (.getfield 217, 3) := by decide +kernel
theorem dX9_type_42 : decode cX9_type 42 = .ok (.iload_n 1, 1) := by decide +kernel
theorem dX9_type_43 : decode cX9_type 43 = .ok (.iastore, 1) := by decide +kernel
theorem dX9_type_44 : decode cX9_type 44 = .ok (.aload_n 0, 1) := by decide +kernel
theorem dX9_type_45 : decode cX9_type 45 = .ok (.dup, 1) := by decide +kernel
theorem dX9_type_46 : decode cX9_type 46 = .ok (.getfield 217, 3) := by decide +kernel
theorem dX9_type_49 : decode cX9_type 49 = .ok (.iconst 1, 1) := by decide +kernel
theorem dX9_type_50 : decode cX9_type 50 = .ok (.iadd, 1) := by decide +kernel
theorem dX9_type_51 : decode cX9_type 51 = .ok (.putfield 217, 3) := by decide +kernel
theorem dX9_type_54 : decode cX9_type 54 = .ok (.aload_n 0, 1) := by decide +kernel
theorem dX9_type_55 : decode cX9_type 55 = .ok (.getfield 217, 3) := by decide +kernel
theorem dX9_type_58 : decode cX9_type 58 = .ok (.ireturn, 1) := by decide +kernel
theorem dX9_clear_0 : decode cX9_clear 0 = .ok (.aload_n 0, 1) := by decide +kernel
theorem dX9_clear_1 : decode cX9_clear 1 = .ok (.getfield 217, 3) := by decide +kernel
theorem dX9_clear_4 : decode cX9_clear 4 = .ok (.istore_n 1, 1) := by decide +kernel
theorem dX9_clear_5 : decode cX9_clear 5 = .ok (.aload_n 0, 1) := by decide +kernel
theorem dX9_clear_6 : decode cX9_clear 6 = .ok (.iconst 0, 1) := by decide +kernel
theorem dX9_clear_7 : decode cX9_clear 7 = .ok (.putfield 217, 3) := by decide +kernel
theorem dX9_clear_10 : decode cX9_clear 10 = .ok (.iload_n 1, 1) := by decide +kernel
theorem dX9_clear_11 : decode cX9_clear 11 = .ok (.ireturn, 1) := by decide +kernel
theorem dX9_part_0 : decode cX9_part 0 = .ok (.iload_n 1, 1) := by decide +kernel
theorem dX9_part_1 : decode cX9_part 1 = .ok (.ifCond .ne 10, 3) := by decide +kernel
theorem dX9_part_4 : decode cX9_part 4 = .ok (.aload_n 0, 1) := by decide +kernel
theorem dX9_part_5 : decode cX9_part 5 = .ok (.getfield 192, 3) := by decide +kernel
theorem dX9_part_8 : decode cX9_part 8 = .ok (.goto 22, 3) := by decide +kernel
theorem dX9_part_11 : decode cX9_part 11 = .ok (.iload_n 1, 1) := by decide +kernel
theorem dX9_part_12 : decode cX9_part 12 = .ok (.iconst 1, 1) := by decide +kernel
theorem dX9_part_13 : decode cX9_part 13 = .ok (.if_icmp .ne 10, 3) := by decide +kernel
theorem dX9_part_16 : decode cX9_part 16 = .ok (.aload_n 0, 1) := by decide +kernel
theorem dX9_part_17 : decode cX9_part 17 = .ok (.getfield 23, 3) := by decide +kernel
theorem dX9_part_20 : decode cX9_part 20 = .ok (.goto 10, 3) := by decide +kernel
theorem dX9_part_23 : decode cX9_part 23 = .ok (.aload_n 0, 1) := by decide +kernel
theorem dX9_part_24 : decode cX9_part 24 = .ok (.bipush (-2), 2) := by decide +kernel
theorem dX9_part_26 : decode cX9_part 26 = .ok (.invokevirtual 62, 3) := by decide +kernel
theorem dX9_part_29 : decode cX9_part 29 = .ok (.i2l, 1) := by decide +kernel
theorem dX9_part_30 : decode cX9_part 30 = .ok (.lreturn, 1) := by decide +kernel
theorem dX9_image_0 : decode cX9_image 0 = .ok (.iload_n 1, 1) := by decide +kernel
theorem dX9_image_1 : decode cX9_image 1 = .ok (.i2l, 1) := by decide +kernel
theorem dX9_image_2 : decode cX9_image 2 = .ok (.lconst 0, 1) := by decide +kernel
theorem dX9_image_3 : decode cX9_image 3 = .ok (.lconst 1, 1) := by decide +kernel
theorem dX9_image_4 : decode cX9_image 4 = .ok (.invokestatic 43, 3) := by decide +kernel
theorem dX9_image_7 : decode cX9_image 7 = .ok (.ifCond .ne 10, 3) := by decide +kernel
theorem dX9_image_10 : decode cX9_image 10 = .ok (.aload_n 0, 1) := by decide +kernel
theorem dX9_image_11 : decode cX9_image 11 = .ok (.bipush (-2), 2) := by decide +kernel
theorem dX9_image_13 : decode cX9_image 13 = .ok (.invokevirtual 62, 3) := by decide +kernel
theorem dX9_image_16 : decode cX9_image 16 = .ok (.ireturn, 1) := by decide +kernel
theorem dX9_image_17 : decode cX9_image 17 = .ok (.iconst 0, 1) := by decide +kernel
theorem dX9_image_18 : decode cX9_image 18 = .ok (.istore_n 2, 1) := by decide +kernel
theorem dX9_image_19 : decode cX9_image 19 = .ok (.iload_n 2, 1) := by decide +kernel
theorem dX9_image_20 : decode cX9_image 20 = .ok (.sipush 454, 3) := by decide +kernel
theorem dX9_image_23 : decode cX9_image 23 = .ok (.if_icmp .ge 27, 3) := by decide +kernel
theorem dX9_image_26 : decode cX9_image 26 = .ok (.aload_n 0, 1) := by decide +kernel
theorem dX9_image_27 : decode cX9_image 27 = .ok (.getfield 13, 3) := by decide +kernel
theorem dX9_image_30 : decode cX9_image 30 = .ok (.sipush 454, 3) := by decide +kernel
theorem dX9_image_33 : decode cX9_image 33 = .ok (.iload_n 1, 1) := by decide +kernel
theorem dX9_image_34 : decode cX9_image 34 = .ok (.imul, 1) := by decide +kernel
theorem dX9_image_35 : decode cX9_image 35 = .ok (.iload_n 2, 1) := by decide +kernel
theorem dX9_image_36 : decode cX9_image 36 = .ok (.iadd, 1) := by decide +kernel
theorem dX9_image_37 : decode cX9_image 37 = .ok (.aload_n 0, 1) := by decide +kernel
theorem dX9_image_38 : decode cX9_image 38 = .ok (.getfield 7, 3) := by decide +kernel
theorem dX9_image_41 : decode cX9_image 41 = .ok (.iload_n 2, 1) := by decide +kernel
theorem dX9_image_42 : decode cX9_image 42 = .ok (.iaload, 1) := by decide +kernel
theorem dX9_image_43 : decode cX9_image 43 = .ok (.iastore, 1) := by decide +kernel
theorem dX9_image_44 : decode cX9_image 44 = .ok (.iinc 2 1, 3) := by decide +kernel
theorem dX9_image_47 : decode cX9_image 47 = .ok (.goto (-28), 3) := by decide +kernel
theorem dX9_image_50 : decode cX9_image 50 = .ok (.aload_n 0, 1) := by decide +kernel
theorem dX9_image_51 : decode cX9_image 51 = .ok (.getfield 16, 3) := by decide +kernel
theorem dX9_image_54 : decode cX9_image 54 = .ok (.iload_n 1, 1) := by decide +kernel
theorem dX9_image_55 : decode cX9_image 55 = .ok (.iconst 1, 1) := by decide +kernel
theorem dX9_image_56 : decode cX9_image 56 = .ok (.bastore, 1) := by decide +kernel
theorem dX9_image_57 : decode cX9_image 57 = .ok (.iconst 1, 1) := by decide +kernel
theorem dX9_image_58 : decode cX9_image 58 = .ok (.ireturn, 1) := by decide +kernel
theorem dX9_from_0 : decode cX9_from 0 = .ok (.iload_n 1, 1) := by decide +kernel
theorem dX9_from_1 : decode cX9_from 1 = .ok (.i2l, 1) := by decide +kernel
theorem dX9_from_2 : decode cX9_from 2 = .ok (.lconst 0, 1) := by decide +kernel
theorem dX9_from_3 : decode cX9_from 3 = .ok (.lconst 1, 1) := by decide +kernel
theorem dX9_from_4 : decode cX9_from 4 = .ok (.invokestatic 43, 3) := by decide +kernel
theorem dX9_from_7 : decode cX9_from 7 = .ok (.ifCond .ne 10, 3) := by decide +kernel
theorem dX9_from_10 : decode cX9_from 10 = .ok (.aload_n 0, 1) := by decide +kernel
theorem dX9_from_11 : decode cX9_from 11 = .ok (.bipush (-2), 2) := by decide +kernel
theorem dX9_from_13 : decode cX9_from 13 = .ok (.invokevirtual 62, 3) := by decide +kernel
theorem dX9_from_16 : decode cX9_from 16 = .ok (.ireturn, 1) := by decide +kernel
theorem dX9_from_17 : decode cX9_from 17 = .ok (.aload_n 0, 1) := by decide +kernel
theorem dX9_from_18 : decode cX9_from 18 = .ok (.getfield 16, 3) := by decide +kernel
theorem dX9_from_21 : decode cX9_from 21 = .ok (.iload_n 1, 1) := by decide +kernel
theorem dX9_from_22 : decode cX9_from 22 = .ok (.baload, 1) := by decide +kernel
theorem dX9_from_23 : decode cX9_from 23 = .ok (.ifCond .ne 8, 3) := by decide +kernel
theorem dX9_from_26 : decode cX9_from 26 = .ok (.aload_n 0, 1) := by decide +kernel
theorem dX9_from_27 : decode cX9_from 27 = .ok (.invokevirtual 98, 3) := by decide +kernel
theorem dX9_from_30 : decode cX9_from 30 = .ok (.ireturn, 1) := by decide +kernel
theorem dX9_from_31 : decode cX9_from 31 = .ok (.iconst 0, 1) := by decide +kernel
theorem dX9_from_32 : decode cX9_from 32 = .ok (.istore_n 2, 1) := by decide +kernel
theorem dX9_from_33 : decode cX9_from 33 = .ok (.iload_n 2, 1) := by decide +kernel
theorem dX9_from_34 : decode cX9_from 34 = .ok (.sipush 454, 3) := by decide +kernel
theorem dX9_from_37 : decode cX9_from 37 = .ok (.if_icmp .ge 27, 3) := by decide +kernel
theorem dX9_from_40 : decode cX9_from 40 = .ok (.aload_n 0, 1) := by decide +kernel
theorem dX9_from_41 : decode cX9_from 41 = .ok (.getfield 7, 3) := by decide +kernel
theorem dX9_from_44 : decode cX9_from 44 = .ok (.iload_n 2, 1) := by decide +kernel
theorem dX9_from_45 : decode cX9_from 45 = .ok (.aload_n 0, 1) := by decide +kernel
theorem dX9_from_46 : decode cX9_from 46 = .ok (.getfield 13, 3) := by decide +kernel
theorem dX9_from_49 : decode cX9_from 49 = .ok (.sipush 454, 3) := by decide +kernel
theorem dX9_from_52 : decode cX9_from 52 = .ok (.iload_n 1, 1) := by decide +kernel
theorem dX9_from_53 : decode cX9_from 53 = .ok (.imul, 1) := by decide +kernel
theorem dX9_from_54 : decode cX9_from 54 = .ok (.iload_n 2, 1) := by decide +kernel
theorem dX9_from_55 : decode cX9_from 55 = .ok (.iadd, 1) := by decide +kernel
theorem dX9_from_56 : decode cX9_from 56 = .ok (.iaload, 1) := by decide +kernel
theorem dX9_from_57 : decode cX9_from 57 = .ok (.iastore, 1) := by decide +kernel
theorem dX9_from_58 : decode cX9_from 58 = .ok (.iinc 2 1, 3) := by decide +kernel
theorem dX9_from_61 : decode cX9_from 61 = .ok (.goto (-28), 3) := by decide +kernel
theorem dX9_from_64 : decode cX9_from 64 = .ok (.iconst 1, 1) := by decide +kernel
theorem dX9_from_65 : decode cX9_from 65 = .ok (.ireturn, 1) := by decide +kernel
theorem dX9_status_0 : decode cX9_status 0 = .ok (.iload_n 1, 1) := by decide +kernel
theorem dX9_status_1 : decode cX9_status 1 = .ok (.i2l, 1) := by decide +kernel
theorem dX9_status_2 : decode cX9_status 2 = .ok (.lconst 0, 1) := by decide +kernel
theorem dX9_status_3 : decode cX9_status 3 = .ok (.ldc2_w 159, 3) := by decide +kernel
theorem dX9_status_6 : decode cX9_status 6 = .ok (.invokestatic 43, 3) := by decide +kernel
theorem dX9_status_9 : decode cX9_status 9 = .ok (.ifCond .eq 12, 3) := by decide +kernel
theorem dX9_status_12 : decode cX9_status 12 = .ok (.aload_n 0, 1) := by decide +kernel
theorem dX9_status_13 : decode cX9_status 13 = .ok (.getfield 20, 3) := by decide +kernel
theorem dX9_status_16 : decode cX9_status 16 = .ok (.iload_n 1, 1) := by decide +kernel
theorem dX9_status_17 : decode cX9_status 17 = .ok (.iaload, 1) := by decide +kernel
theorem dX9_status_18 : decode cX9_status 18 = .ok (.goto 8, 3) := by decide +kernel
theorem dX9_status_21 : decode cX9_status 21 = .ok (.aload_n 0, 1) := by decide +kernel
theorem dX9_status_22 : decode cX9_status 22 = .ok (.iconst (-1), 1) := by decide +kernel
theorem dX9_status_23 : decode cX9_status 23 = .ok (.invokevirtual 62, 3) := by decide +kernel
theorem dX9_status_26 : decode cX9_status 26 = .ok (.ireturn, 1) := by decide +kernel
theorem dX9_roads_0 : decode cX9_roads 0 = .ok (.iconst 0, 1) := by decide +kernel
theorem dX9_roads_1 : decode cX9_roads 1 = .ok (.istore_n 1, 1) := by decide +kernel
theorem dX9_roads_2 : decode cX9_roads 2 = .ok (.iconst 0, 1) := by decide +kernel
theorem dX9_roads_3 : decode cX9_roads 3 = .ok (.istore_n 2, 1) := by decide +kernel
theorem dX9_roads_4 : decode cX9_roads 4 = .ok (.iload_n 2, 1) := by decide +kernel
theorem dX9_roads_5 : decode cX9_roads 5 = .ok (.aload_n 0, 1) := by decide +kernel
theorem dX9_roads_6 : decode cX9_roads 6 = .ok (.invokevirtual 39, 3) := by decide +kernel
theorem dX9_roads_9 : decode cX9_roads 9 = .ok (.if_icmp .ge 52, 3) := by decide +kernel
theorem dX9_roads_12 : decode cX9_roads 12 = .ok (.iload_n 2, 1) := by decide +kernel
theorem dX9_roads_13 : decode cX9_roads 13 = .ok (.iconst 1, 1) := by decide +kernel
theorem dX9_roads_14 : decode cX9_roads 14 = .ok (.iadd, 1) := by decide +kernel
theorem dX9_roads_15 : decode cX9_roads 15 = .ok (.istore_n 3, 1) := by decide +kernel
theorem dX9_roads_16 : decode cX9_roads 16 = .ok (.iload_n 3, 1) := by decide +kernel
theorem dX9_roads_17 : decode cX9_roads 17 = .ok (.aload_n 0, 1) := by decide +kernel
theorem dX9_roads_18 : decode cX9_roads 18 = .ok (.invokevirtual 39, 3) := by decide +kernel
theorem dX9_roads_21 : decode cX9_roads 21 = .ok (.if_icmp .ge 34, 3) := by decide +kernel
theorem dX9_roads_24 : decode cX9_roads 24 = .ok (.iload_n 1, 1) := by decide +kernel
theorem dX9_roads_25 : decode cX9_roads 25 = .ok (.aload_n 0, 1) := by decide +kernel
theorem dX9_roads_26 : decode cX9_roads 26 = .ok (.getfield 7, 3) := by decide +kernel
theorem dX9_roads_29 : decode cX9_roads 29 = .ok (.bipush 10, 2) := by decide +kernel
theorem dX9_roads_31 : decode cX9_roads 31 = .ok (.bipush 6, 2) := by decide +kernel
theorem dX9_roads_33 : decode cX9_roads 33 = .ok (.iload_n 2, 1) := by decide +kernel
theorem dX9_roads_34 : decode cX9_roads 34 = .ok (.imul, 1) := by decide +kernel
theorem dX9_roads_35 : decode cX9_roads 35 = .ok (.iadd, 1) := by decide +kernel
theorem dX9_roads_36 : decode cX9_roads 36 = .ok (.iload_n 3, 1) := by decide +kernel
theorem dX9_roads_37 : decode cX9_roads 37 = .ok (.iadd, 1) := by decide +kernel
theorem dX9_roads_38 : decode cX9_roads 38 = .ok (.iaload, 1) := by decide +kernel
theorem dX9_roads_39 : decode cX9_roads 39 = .ok (.ifCond .le 7, 3) := by decide +kernel
theorem dX9_roads_42 : decode cX9_roads 42 = .ok (.iconst 1, 1) := by decide +kernel
theorem dX9_roads_43 : decode cX9_roads 43 = .ok (.goto 4, 3) := by decide +kernel
theorem dX9_roads_46 : decode cX9_roads 46 = .ok (.iconst 0, 1) := by decide +kernel
theorem dX9_roads_47 : decode cX9_roads 47 = .ok (.iadd, 1) := by decide +kernel
theorem dX9_roads_48 : decode cX9_roads 48 = .ok (.istore_n 1, 1) := by decide +kernel
theorem dX9_roads_49 : decode cX9_roads 49 = .ok (.iinc 3 1, 3) := by decide +kernel
theorem dX9_roads_52 : decode cX9_roads 52 = .ok (.goto (-36), 3) := by decide +kernel
theorem dX9_roads_55 : decode cX9_roads 55 = .ok (.iinc 2 1, 3) := by decide +kernel
theorem dX9_roads_58 : decode cX9_roads 58 = .ok (.goto (-54), 3) := by decide +kernel
theorem dX9_roads_61 : decode cX9_roads 61 = .ok (.iload_n 1, 1) := by decide +kernel
theorem dX9_roads_62 : decode cX9_roads 62 = .ok (.ireturn, 1) := by decide +kernel
theorem dX9_counted_0 : decode cX9_counted 0 = .ok (.iload_n 1, 1) := by decide +kernel
theorem dX9_counted_1 : decode cX9_counted 1 = .ok (.tableswitch 64 0 4 #[35, 40, 45, 50, 57], 35) := by decide +kernel
theorem dX9_counted_36 : decode cX9_counted 36 = .ok (.aload_n 0, 1) := by decide +kernel
theorem dX9_counted_37 : decode cX9_counted 37 = .ok (.invokevirtual 39, 3) := by decide +kernel
theorem dX9_counted_40 : decode cX9_counted 40 = .ok (.ireturn, 1) := by decide +kernel
theorem dX9_counted_41 : decode cX9_counted 41 = .ok (.aload_n 0, 1) := by decide +kernel
theorem dX9_counted_42 : decode cX9_counted 42 = .ok (.invokevirtual 47, 3) := by decide +kernel
theorem dX9_counted_45 : decode cX9_counted 45 = .ok (.ireturn, 1) := by decide +kernel
theorem dX9_counted_46 : decode cX9_counted 46 = .ok (.aload_n 0, 1) := by decide +kernel
theorem dX9_counted_47 : decode cX9_counted 47 = .ok (.invokevirtual 272, 3) := by decide +kernel
theorem dX9_counted_50 : decode cX9_counted 50 = .ok (.ireturn, 1) := by decide +kernel
theorem dX9_counted_51 : decode cX9_counted 51 = .ok (.aload_n 0, 1) := by decide +kernel
theorem dX9_counted_52 : decode cX9_counted 52 = .ok (.getfield 7, 3) := by decide +kernel
theorem dX9_counted_55 : decode cX9_counted 55 = .ok (.iconst 2, 1) := by decide +kernel
theorem dX9_counted_56 : decode cX9_counted 56 = .ok (.iaload, 1) := by decide +kernel
theorem dX9_counted_57 : decode cX9_counted 57 = .ok (.ireturn, 1) := by decide +kernel
theorem dX9_counted_58 : decode cX9_counted 58 = .ok (.aload_n 0, 1) := by decide +kernel
theorem dX9_counted_59 : decode cX9_counted 59 = .ok (.getfield 7, 3) := by decide +kernel
theorem dX9_counted_62 : decode cX9_counted 62 = .ok (.iconst 3, 1) := by decide +kernel
theorem dX9_counted_63 : decode cX9_counted 63 = .ok (.iaload, 1) := by decide +kernel
theorem dX9_counted_64 : decode cX9_counted 64 = .ok (.ireturn, 1) := by decide +kernel
theorem dX9_counted_65 : decode cX9_counted 65 = .ok (.aload_n 0, 1) := by decide +kernel
theorem dX9_counted_66 : decode cX9_counted 66 = .ok (.getfield 217, 3) := by decide +kernel
theorem dX9_counted_69 : decode cX9_counted 69 = .ok (.ireturn, 1) := by decide +kernel
theorem dX9_count_0 : decode cX9_count 0 = .ok (.iload_n 1, 1) := by decide +kernel
theorem dX9_count_1 : decode cX9_count 1 = .ok (.i2l, 1) := by decide +kernel
theorem dX9_count_2 : decode cX9_count 2 = .ok (.lconst 0, 1) := by decide +kernel
theorem dX9_count_3 : decode cX9_count 3 = .ok (.ldc2_w 50, 3) := by decide +kernel
theorem dX9_count_6 : decode cX9_count 6 = .ok (.invokestatic 43, 3) := by decide +kernel
theorem dX9_count_9 : decode cX9_count 9 = .ok (.ifCond .eq 11, 3) := by decide +kernel
theorem dX9_count_12 : decode cX9_count 12 = .ok (.aload_n 0, 1) := by decide +kernel
theorem dX9_count_13 : decode cX9_count 13 = .ok (.iload_n 1, 1) := by decide +kernel
theorem dX9_count_14 : decode cX9_count 14 = .ok (.invokevirtual 275, 3) := by decide +kernel
theorem dX9_count_17 : decode cX9_count 17 = .ok (.goto 9, 3) := by decide +kernel
theorem dX9_count_20 : decode cX9_count 20 = .ok (.aload_n 0, 1) := by decide +kernel
theorem dX9_count_21 : decode cX9_count 21 = .ok (.bipush (-2), 2) := by decide +kernel
theorem dX9_count_23 : decode cX9_count 23 = .ok (.invokevirtual 62, 3) := by decide +kernel
theorem dX9_count_26 : decode cX9_count 26 = .ok (.ireturn, 1) := by decide +kernel
theorem dX9_sums_0 : decode cX9_sums 0 = .ok (.lload_n 1, 1) := by decide +kernel
theorem dX9_sums_1 : decode cX9_sums 1 = .ok (.lstore 5, 2) := by decide +kernel
theorem dX9_sums_3 : decode cX9_sums 3 = .ok (.iconst 0, 1) := by decide +kernel
theorem dX9_sums_4 : decode cX9_sums 4 = .ok (.istore 7, 2) := by decide +kernel
theorem dX9_sums_6 : decode cX9_sums 6 = .ok (.iload 7, 2) := by decide +kernel
theorem dX9_sums_8 : decode cX9_sums 8 = .ok (.iload 4, 2) := by decide +kernel
theorem dX9_sums_10 : decode cX9_sums 10 = .ok (.if_icmp .ge 28, 3) := by decide +kernel
theorem dX9_sums_13 : decode cX9_sums 13 = .ok (.ldc2_w 278, 3) := by decide +kernel
theorem dX9_sums_16 : decode cX9_sums 16 = .ok (.lload 5, 2) := by decide +kernel
theorem dX9_sums_18 : decode cX9_sums 18 = .ok (.lmul, 1) := by decide +kernel
theorem dX9_sums_19 : decode cX9_sums 19 = .ok (.aload_n 0, 1) := by decide +kernel
theorem dX9_sums_20 : decode cX9_sums 20 = .ok (.getfield 7, 3) := by decide +kernel
theorem dX9_sums_23 : decode cX9_sums 23 = .ok (.iload_n 3, 1) := by decide +kernel
theorem dX9_sums_24 : decode cX9_sums 24 = .ok (.iload 7, 2) := by decide +kernel
theorem dX9_sums_26 : decode cX9_sums 26 = .ok (.iadd, 1) := by decide +kernel
theorem dX9_sums_27 : decode cX9_sums 27 = .ok (.iaload, 1) := by decide +kernel
theorem dX9_sums_28 : decode cX9_sums 28 = .ok (.i2l, 1) := by decide +kernel
theorem dX9_sums_29 : decode cX9_sums 29 = .ok (.ladd, 1) := by decide +kernel
theorem dX9_sums_30 : decode cX9_sums 30 = .ok (.lstore 5, 2) := by decide +kernel
theorem dX9_sums_32 : decode cX9_sums 32 = .ok (.iinc 7 1, 3) := by decide +kernel
theorem dX9_sums_35 : decode cX9_sums 35 = .ok (.goto (-29), 3) := by decide +kernel
theorem dX9_sums_38 : decode cX9_sums 38 = .ok (.lload 5, 2) := by decide +kernel
theorem dX9_sums_40 : decode cX9_sums 40 = .ok (.lreturn, 1) := by decide +kernel
theorem dX9_digest_0 : decode cX9_digest 0 = .ok (.ldc2_w 280, 3) := by decide +kernel
theorem dX9_digest_3 : decode cX9_digest 3 = .ok (.lstore_n 1, 1) := by decide +kernel
theorem dX9_digest_4 : decode cX9_digest 4 = .ok (.iconst 0, 1) := by decide +kernel
theorem dX9_digest_5 : decode cX9_digest 5 = .ok (.istore_n 3, 1) := by decide +kernel
theorem dX9_digest_6 : decode cX9_digest 6 = .ok (.iload_n 3, 1) := by decide +kernel
theorem dX9_digest_7 : decode cX9_digest 7 = .ok (.bipush 6, 2) := by decide +kernel
theorem dX9_digest_9 : decode cX9_digest 9 = .ok (.if_icmp .ge 22, 3) := by decide +kernel
theorem dX9_digest_12 : decode cX9_digest 12 = .ok (.ldc2_w 278, 3) := by decide +kernel
theorem dX9_digest_15 : decode cX9_digest 15 = .ok (.lload_n 1, 1) := by decide +kernel
theorem dX9_digest_16 : decode cX9_digest 16 = .ok (.lmul, 1) := by decide +kernel
theorem dX9_digest_17 : decode cX9_digest 17 = .ok (.aload_n 0, 1) := by decide +kernel
theorem dX9_digest_18 : decode cX9_digest 18 = .ok (.iload_n 3, 1) := by decide +kernel
theorem dX9_digest_19 : decode cX9_digest 19 = .ok (.invokevirtual 275, 3) := by decide +kernel
theorem dX9_digest_22 : decode cX9_digest 22 = .ok (.i2l, 1) := by decide +kernel
theorem dX9_digest_23 : decode cX9_digest 23 = .ok (.ladd, 1) := by decide +kernel
theorem dX9_digest_24 : decode cX9_digest 24 = .ok (.lstore_n 1, 1) := by decide +kernel
theorem dX9_digest_25 : decode cX9_digest 25 = .ok (.iinc 3 1, 3) := by decide +kernel
theorem dX9_digest_28 : decode cX9_digest 28 = .ok (.goto (-22), 3) := by decide +kernel
theorem dX9_digest_31 : decode cX9_digest 31 = .ok (.aload_n 0, 1) := by decide +kernel
theorem dX9_digest_32 : decode cX9_digest 32 = .ok (.lload_n 1, 1) := by decide +kernel
theorem dX9_digest_33 : decode cX9_digest 33 = .ok (.iconst 4, 1) := by decide +kernel
theorem dX9_digest_34 : decode cX9_digest 34 = .ok (.aload_n 0, 1) := by decide +kernel
theorem dX9_digest_35 : decode cX9_digest 35 = .ok (.invokevirtual 39, 3) := by decide +kernel
theorem dX9_digest_38 : decode cX9_digest 38 = .ok (.invokevirtual 282, 3) := by decide +kernel
theorem dX9_digest_41 : decode cX9_digest 41 = .ok (.lstore_n 1, 1) := by decide +kernel
theorem dX9_digest_42 : decode cX9_digest 42 = .ok (.iconst 0, 1) := by decide +kernel
theorem dX9_digest_43 : decode cX9_digest 43 = .ok (.istore_n 3, 1) := by decide +kernel
theorem dX9_digest_44 : decode cX9_digest 44 = .ok (.iload_n 3, 1) := by decide +kernel
theorem dX9_digest_45 : decode cX9_digest 45 = .ok (.aload_n 0, 1) := by decide +kernel
theorem dX9_digest_46 : decode cX9_digest 46 = .ok (.invokevirtual 39, 3) := by decide +kernel
theorem dX9_digest_49 : decode cX9_digest 49 = .ok (.if_icmp .ge 52, 3) := by decide +kernel
theorem dX9_digest_52 : decode cX9_digest 52 = .ok (.iload_n 3, 1) := by decide +kernel
theorem dX9_digest_53 : decode cX9_digest 53 = .ok (.iconst 1, 1) := by decide +kernel
theorem dX9_digest_54 : decode cX9_digest 54 = .ok (.iadd, 1) := by decide +kernel
theorem dX9_digest_55 : decode cX9_digest 55 = .ok (.istore 4, 2) := by decide +kernel
theorem dX9_digest_57 : decode cX9_digest 57 = .ok (.iload 4, 2) := by decide +kernel
theorem dX9_digest_59 : decode cX9_digest 59 = .ok (.aload_n 0, 1) := by decide +kernel
theorem dX9_digest_60 : decode cX9_digest 60 = .ok (.invokevirtual 39, 3) := by decide +kernel
theorem dX9_digest_63 : decode cX9_digest 63 = .ok (.if_icmp .ge 32, 3) := by decide +kernel
theorem dX9_digest_66 : decode cX9_digest 66 = .ok (.ldc2_w 278, 3) := by decide +kernel
theorem dX9_digest_69 : decode cX9_digest 69 = .ok (.lload_n 1, 1) := by decide +kernel
theorem dX9_digest_70 : decode cX9_digest 70 = .ok (.lmul, 1) := by decide +kernel
theorem dX9_digest_71 : decode cX9_digest 71 = .ok (.aload_n 0, 1) := by decide +kernel
theorem dX9_digest_72 : decode cX9_digest 72 = .ok (.getfield 7, 3) := by decide +kernel
theorem dX9_digest_75 : decode cX9_digest 75 = .ok (.bipush 10, 2) := by decide +kernel
theorem dX9_digest_77 : decode cX9_digest 77 = .ok (.bipush 6, 2) := by decide +kernel
theorem dX9_digest_79 : decode cX9_digest 79 = .ok (.iload_n 3, 1) := by decide +kernel
theorem dX9_digest_80 : decode cX9_digest 80 = .ok (.imul, 1) := by decide +kernel
theorem dX9_digest_81 : decode cX9_digest 81 = .ok (.iadd, 1) := by decide +kernel
theorem dX9_digest_82 : decode cX9_digest 82 = .ok (.iload 4, 2) := by decide +kernel
theorem dX9_digest_84 : decode cX9_digest 84 = .ok (.iadd, 1) := by decide +kernel
theorem dX9_digest_85 : decode cX9_digest 85 = .ok (.iaload, 1) := by decide +kernel
theorem dX9_digest_86 : decode cX9_digest 86 = .ok (.i2l, 1) := by decide +kernel
theorem dX9_digest_87 : decode cX9_digest 87 = .ok (.ladd, 1) := by decide +kernel
theorem dX9_digest_88 : decode cX9_digest 88 = .ok (.lstore_n 1, 1) := by decide +kernel
theorem dX9_digest_89 : decode cX9_digest 89 = .ok (.iinc 4 1, 3) := by decide +kernel
theorem dX9_digest_92 : decode cX9_digest 92 = .ok (.goto (-35), 3) := by decide +kernel
theorem dX9_digest_95 : decode cX9_digest 95 = .ok (.iinc 3 1, 3) := by decide +kernel
theorem dX9_digest_98 : decode cX9_digest 98 = .ok (.goto (-54), 3) := by decide +kernel
theorem dX9_digest_101 : decode cX9_digest 101 = .ok (.aload_n 0, 1) := by decide +kernel
theorem dX9_digest_102 : decode cX9_digest 102 = .ok (.lload_n 1, 1) := by decide +kernel
theorem dX9_digest_103 : decode cX9_digest 103 = .ok (.bipush 46, 2) := by decide +kernel
theorem dX9_digest_105 : decode cX9_digest 105 = .ok (.iconst 5, 1) := by decide +kernel
theorem dX9_digest_106 : decode cX9_digest 106 = .ok (.aload_n 0, 1) := by decide +kernel
theorem dX9_digest_107 : decode cX9_digest 107 = .ok (.invokevirtual 47, 3) := by decide +kernel
theorem dX9_digest_110 : decode cX9_digest 110 = .ok (.imul, 1) := by decide +kernel
theorem dX9_digest_111 : decode cX9_digest 111 = .ok (.invokevirtual 282, 3) := by decide +kernel
theorem dX9_digest_114 : decode cX9_digest 114 = .ok (.lstore_n 1, 1) := by decide +kernel
theorem dX9_digest_115 : decode cX9_digest 115 = .ok (.aload_n 0, 1) := by decide +kernel
theorem dX9_digest_116 : decode cX9_digest 116 = .ok (.lload_n 1, 1) := by decide +kernel
theorem dX9_digest_117 : decode cX9_digest 117 = .ok (.bipush 86, 2) := by decide +kernel
theorem dX9_digest_119 : decode cX9_digest 119 = .ok (.iconst 5, 1) := by decide +kernel
theorem dX9_digest_120 : decode cX9_digest 120 = .ok (.aload_n 0, 1) := by decide +kernel
theorem dX9_digest_121 : decode cX9_digest 121 = .ok (.getfield 7, 3) := by decide +kernel
theorem dX9_digest_124 : decode cX9_digest 124 = .ok (.iconst 2, 1) := by decide +kernel
theorem dX9_digest_125 : decode cX9_digest 125 = .ok (.iaload, 1) := by decide +kernel
theorem dX9_digest_126 : decode cX9_digest 126 = .ok (.imul, 1) := by decide +kernel
theorem dX9_digest_127 : decode cX9_digest 127 = .ok (.invokevirtual 282, 3) := by decide +kernel
theorem dX9_digest_130 : decode cX9_digest 130 = .ok (.lstore_n 1, 1) := by decide +kernel
theorem dX9_digest_131 : decode cX9_digest 131 = .ok (.ldc2_w 278, 3) := by decide +kernel
theorem dX9_digest_134 : decode cX9_digest 134 = .ok (.ldc2_w 278, 3) := by decide +kernel
theorem dX9_digest_137 : decode cX9_digest 137 = .ok (.lload_n 1, 1) := by decide +kernel
theorem dX9_digest_138 : decode cX9_digest 138 = .ok (.lmul, 1) := by decide +kernel
theorem dX9_digest_139 : decode cX9_digest 139 = .ok (.aload_n 0, 1) := by decide +kernel
theorem dX9_digest_140 : decode cX9_digest 140 = .ok (.getfield 192, 3) := by decide +kernel
theorem dX9_digest_143 : decode cX9_digest 143 = .ok (.ladd, 1) := by decide +kernel
theorem dX9_digest_144 : decode cX9_digest 144 = .ok (.lmul, 1) := by decide +kernel
theorem dX9_digest_145 : decode cX9_digest 145 = .ok (.aload_n 0, 1) := by decide +kernel
theorem dX9_digest_146 : decode cX9_digest 146 = .ok (.getfield 23, 3) := by decide +kernel
theorem dX9_digest_149 : decode cX9_digest 149 = .ok (.ladd, 1) := by decide +kernel
theorem dX9_digest_150 : decode cX9_digest 150 = .ok (.lreturn, 1) := by decide +kernel
theorem kX9_draw : zCV yX9_draw RX9 cX9_draw 2 (some .int) 1 := ⟨q5_50, qp37, q1_3, q5_51, rfl, by decide +kernel, by decide +kernel, by decide +kernel⟩
theorem kX9_drawn : zCV yX9_drawn RX9 cX9_drawn 9 (some .int) 2 := ⟨q5_44, q5_45, q1_3, q5_46, rfl, by decide +kernel, by decide +kernel, by decide +kernel⟩
theorem kX9_type : zCV yX9_type RX9 cX9_type 2 (some .int) 1 := ⟨q5_57, q5_58, q1_3, q5_59, rfl, by decide +kernel, by decide +kernel, by decide +kernel⟩
theorem kX9_clear : zCV yX9_clear RX9 cX9_clear 2 (some .int) 0 := ⟨q5_62, q5_63, q1_3, q5_64, rfl, by decide +kernel, by decide +kernel, by decide +kernel⟩
theorem kX9_part : zCV yX9_part RX9 cX9_part 2 (some .long) 1 := ⟨q5_112, q5_113, q1_3, q5_114, rfl, by decide +kernel, by decide +kernel, by decide +kernel⟩
theorem kX9_image : zCV yX9_image RX9 cX9_image 3 (some .int) 1 := ⟨q5_116, q5_117, q1_3, q5_118, rfl, by decide +kernel, by decide +kernel, by decide +kernel⟩
theorem kX9_from : zCV yX9_from RX9 cX9_from 3 (some .int) 1 := ⟨q5_120, q5_121, q1_3, q5_122, rfl, by decide +kernel, by decide +kernel, by decide +kernel⟩
theorem kX9_status : zCV yX9_status RX9 cX9_status 2 (some .int) 1 := ⟨q5_124, q5_125, q1_3, q5_126, rfl, by decide +kernel, by decide +kernel, by decide +kernel⟩
theorem kX9_roads : zCV yX9_roads RX9 cX9_roads 4 (some .int) 0 := ⟨q5_137, qp47, q1_3, q5_138, rfl, by decide +kernel, by decide +kernel, by decide +kernel⟩
theorem kX9_counted : zCV yX9_counted RX9 cX9_counted 2 (some .int) 1 := ⟨q5_133, qp46, q1_3, q5_134, rfl, by decide +kernel, by decide +kernel, by decide +kernel⟩
theorem kX9_count : zCV yX9_count RX9 cX9_count 2 (some .int) 1 := ⟨q5_128, q5_129, q1_3, q5_130, rfl, by decide +kernel, by decide +kernel, by decide +kernel⟩
theorem kX9_sums : zCV yX9_sums RX9 cX9_sums 8 (some .long) 3 := ⟨q5_147, qp48, q1_3, q5_148, rfl, by decide +kernel, by decide +kernel, by decide +kernel⟩
theorem kX9_digest : zCV yX9_digest RX9 cX9_digest 5 (some .long) 0 := ⟨q5_140, q5_141, q1_3, q5_142, rfl, by decide +kernel, by decide +kernel, by decide +kernel⟩
set_option maxHeartbeats 4000000 in
set_option maxRecDepth 100000 in
theorem c_X9_draw (l : Launch) (g : zG) (o : Nat) (a : Nat → Nat) (F : Nat → Int32) (L : Nat → Int64) (A : Nat → Nat → Int32) (X : va_W) (q : Nat) (xn : Nat) (hq : 0 < q) (hq6 : q ≤ 60) (hx : L 14 = lN xn) (hxl : xn < 2147483648) : Met l yX9_draw (Cond.code yX9_draw cX9_draw 2 (some .int) :: TBL) { frames := 0, cells := 0, slots := 0, locals := 0 } (zPc [.ref o, .int (nI q)] g (mW g o a F L A ++ X)) (zQi g (fun r ws => ∃ (dv : Nat) (xv : Nat), r = nI dv ∧ ws = mW g o a F (vp_updL L 14 (lN xv)) A ++ X ∧ xv = nxt xn ∧ dv = xv / 65536 % q)) 0 0 (zA (gz g)) := by
  refine z_start (by decide +kernel) rfl (Nat.le_of_ble_eq_true rfl) ?_
  intro p e s m args below meth c ls hE hr hnm hB hl
  have hl : lv_has ls 2 [(0, .ref o), (1, .int (nI q))] := hl
  revert hB
  generalize s.heap = H
  generalize ([] : List Loc) = locs
  intro hB
  have hnl := nxt_lt xn
  have hm9 : nxt xn / 65536 % q < q := Nat.mod_lt _ hq
  refine lv_aload_n hE.x hE.b dX9_draw_0 rfl (lv_at hl 0 rfl) ?_
  refine lv_aload_n hE.x hE.b dX9_draw_1 rfl (lv_at hl 0 rfl) ?_
  refine z_get (v := .long (L 14)) hE hB inX9 0 rfl rfl 14 (by decide) q4_15 (fun _ h9 => h9) rfl dX9_draw_2 ?_
  refine lv_ldc2 (v := lN 1103515245) hE.x hE.b hE.o (hE.t _ q5_52) dX9_draw_5 ?_
  refine lv_lmul hE.x hE.b dX9_draw_8 ?_
  refine z_topl (y := (lN (xn * 1103515245))) (by rw [hx, lN_mul]) ?_
  refine lv_ldc2 (v := lN 12345) hE.x hE.b hE.o (hE.t _ q5_53) dX9_draw_9 ?_
  refine lv_ladd hE.x hE.b dX9_draw_12 ?_
  refine z_topl (y := (lN (xn * 1103515245 + 12345))) (by rw [lN_add]) ?_
  refine lv_ldc2 (v := lN 2147483648) hE.x hE.b hE.o (hE.t _ q5_54) dX9_draw_13 ?_
  refine lv_lrem hE.x hE.b dX9_draw_16 (by decide) ?_
  refine z_topl (y := (lN (nxt xn))) (pk_lRem (by omega) (by omega) (by omega)) ?_
  refine z_put (v := .long (lN (nxt xn))) (ty := .long) (ws' := mW g o a F (vp_updL L 14 (lN (nxt xn))) A ++ X) hE hB inX9 tyX9 tyX9_ok nmX9 0 rfl rfl 14 (by decide) q4_15 (fun _ h9 => h9) rfl (by decide +kernel) rfl rfl (Nat.le_of_ble_eq_true rfl) rfl dX9_draw_17 (fun H locs hB => ?_)
  refine lv_aload_n hE.x hE.b dX9_draw_20 rfl (lv_at hl 0 rfl) ?_
  refine z_get (v := .long (lN (nxt xn))) hE hB inX9 0 rfl rfl 14 (by decide) q4_15 (fun _ h9 => h9) rfl dX9_draw_21 ?_
  refine lv_ldc2 (v := lN 65536) hE.x hE.b hE.o (hE.t _ q5_55) dX9_draw_24 ?_
  refine lv_ldiv hE.x hE.b dX9_draw_27 (by decide) ?_
  refine z_topl (y := (lN (nxt xn / 65536))) (pk_lDiv (by omega) (by omega) (by omega)) ?_
  refine lv_iload_n hE.x hE.b dX9_draw_28 rfl (lv_at hl 1 rfl) ?_
  refine lv_i2l (v := lN q) hE.x hE.b dX9_draw_29 (nI_l (by omega)) ?_
  refine lv_lrem hE.x hE.b dX9_draw_30 (lN_ne0 (by omega) (by omega)) ?_
  refine z_topl (y := (lN (nxt xn / 65536 % q))) (pk_lRem (by omega) (by omega) (by omega)) ?_
  refine lv_l2i hE.x hE.b dX9_draw_31 rfl ?_
  refine z_top (y := (nI (nxt xn / 65536 % q))) (lN_i _) ?_
  exact z_iret (v := (nI (nxt xn / 65536 % q))) (ws := mW g o a F (vp_updL L 14 (lN (nxt xn))) A ++ X) hE hB hr (⟨nxt xn / 65536 % q, nxt xn, rfl, rfl, rfl, rfl⟩) dX9_draw_32

set_option maxHeartbeats 4000000 in
set_option maxRecDepth 100000 in
theorem c_X9_drawn (l : Launch) (g : zG) (o : Nat) (a : Nat → Nat) (F : Nat → Int32) (L : Nat → Int64) (A : Nat → Nat → Int32) (X : va_W) (T : Nat) (C : Nat) (V : Nat) (U : Nat) (sd : Int32) (q : Int32) (hn : nOK (A 0) T C V U) : Met l yX9_drawn (Cond.code yX9_drawn cX9_drawn 9 (some .int) :: TBL) { frames := 6, cells := 0, slots := 0, locals := 154 } (zPc [.ref o, .int sd, .int q] g (mW g o a F L A ++ X)) (zQi g (fun r ws => ∃ (F1 : Nat → Int32) (lx : Int64), r = (drawnR (A 0) T C sd q) ∧ ws = mW g o a F1 (vp_updL L 14 lx) (chk (drawnOK sd q) A) ++ X ∧ F1 16 = F 16)) 0 0 (zA (gz g)) := by
  refine z_start (by decide +kernel) rfl (Nat.le_of_ble_eq_true rfl) ?_
  intro p e s m args below meth c ls hE hr hnm hB hl
  have hl : lv_has ls 9 [(0, .ref o), (1, .int sd), (2, .int q)] := hl
  revert hB
  generalize s.heap = H
  generalize ([] : List Loc) = locs
  intro hB
  have hT := hn.T
  have hT6 := hn.T6
  have hC := hn.C
  have hC8 := hn.C8
  have hV := hn.V
  have hV8 := hn.V8
  have hU := hn.U
  have hU8 := hn.U8
  have h16 : F 16 = F 16 := rfl
  refine lv_iload_n hE.x hE.b dX9_drawn_0 rfl (lv_at hl 1 rfl) ?_
  refine lv_i2l hE.x hE.b dX9_drawn_1 rfl ?_
  refine lv_lconst (v := lN 0) hE.x hE.b dX9_drawn_2 rfl ?_
  refine lv_ldc2 (v := lN 999999) hE.x hE.b hE.o (hE.t _ q5_47) dX9_drawn_3 ?_
  refine z_qi hB (z_cS hE hB (c_X9_in l g (Int32.toInt64 sd) (lN 0) (lN 999999) (Int32.toInt sd) 0 999999 (mW g o a F L A ++ X) (Int32.toInt_toInt64 _) (by decide) (by decide)) q4_88 kX9_in ⟨rfl, rfl⟩ ⟨Nat.le_of_ble_eq_true rfl, Nat.le_of_ble_eq_true rfl⟩ rfl hl.1 rfl (Nat.le_of_ble_eq_true rfl) dX9_drawn_6 ⟨Nat.le_of_ble_eq_true rfl, Nat.le_of_ble_eq_true rfl⟩) (fun r_1 w_2 H locs hw hB => ?_)
  obtain ⟨hr9, hw9⟩ := hw
  have hr9 := hr9.symm
  subst hr9
  have hw9 := hw9.symm
  subst hw9
  refine z_bf (b := (inZ 0 999999 (Int32.toInt sd))) (tgt := 24) hE dX9_drawn_9 (by decide) (fun c_3 => ?_) (fun c_3 => ?_)
  · refine lv_aload_n hE.x hE.b dX9_drawn_24 rfl (lv_at hl 0 rfl) ?_
    refine lv_bipush (v := (-2)) hE.x hE.b dX9_drawn_25 rfl ?_
    refine z_qi hB (z_cV hE hB (c_X9_bad l g o a F L A X (-2)) q4_91 kX9_bad ⟨rfl, rfl⟩ ⟨Nat.le_of_ble_eq_true rfl, Nat.le_of_ble_eq_true rfl⟩ 0 rfl rfl rfl hl.1 rfl (Nat.le_of_ble_eq_true rfl) dX9_drawn_27 ⟨Nat.le_of_ble_eq_true rfl, Nat.le_of_ble_eq_true rfl⟩) (fun r_4 w_5 H locs hw hB => ?_)
    obtain ⟨hr9, hw9⟩ := hw
    have hr9 := hr9.symm
    subst hr9
    have hw9 := hw9.symm
    subst hw9
    exact z_iret (v := (-2)) (ws := mW g o a F L (bump 0 A) ++ X) hE hB hr (⟨F, L 14, by unfold drawnR drawnOK; simp only [c_3, Bool.and_false, Bool.false_and, Bool.false_eq_true, if_false, Bool.and_true, Bool.true_and], by unfold chk drawnOK; simp only [c_3, Bool.and_false, Bool.false_and, Bool.false_eq_true, if_false, Bool.and_true, Bool.true_and]; rfl, rfl⟩) dX9_drawn_30
  · refine lv_iload_n hE.x hE.b dX9_drawn_12 rfl (lv_at hl 2 rfl) ?_
    refine lv_i2l hE.x hE.b dX9_drawn_13 rfl ?_
    refine lv_lconst (v := lN 0) hE.x hE.b dX9_drawn_14 rfl ?_
    refine lv_ldc2 (v := lN 60) hE.x hE.b hE.o (hE.t _ q4_122) dX9_drawn_15 ?_
    refine z_qi hB (z_cS hE hB (c_X9_in l g (Int32.toInt64 q) (lN 0) (lN 60) (Int32.toInt q) 0 60 (mW g o a F L A ++ X) (Int32.toInt_toInt64 _) (by decide) (by decide)) q4_88 kX9_in ⟨rfl, rfl⟩ ⟨Nat.le_of_ble_eq_true rfl, Nat.le_of_ble_eq_true rfl⟩ rfl hl.1 rfl (Nat.le_of_ble_eq_true rfl) dX9_drawn_18 ⟨Nat.le_of_ble_eq_true rfl, Nat.le_of_ble_eq_true rfl⟩) (fun r_6 w_7 H locs hw hB => ?_)
    obtain ⟨hr9, hw9⟩ := hw
    have hr9 := hr9.symm
    subst hr9
    have hw9 := hw9.symm
    subst hw9
    refine z_bt (b := (inZ 0 60 (Int32.toInt q))) (tgt := 31) hE dX9_drawn_21 (by decide) (fun c_8 => ?_) (fun c_8 => ?_)
    · refine lv_aload_n hE.x hE.b dX9_drawn_31 rfl (lv_at hl 0 rfl) ?_
      refine z_qi hB (z_cV hE hB (c_X9_towns l g o a F L A X T hT) q4_76 kX9_towns ⟨rfl, rfl⟩ ⟨Nat.le_of_ble_eq_true rfl, Nat.le_of_ble_eq_true rfl⟩ 0 rfl rfl rfl hl.1 rfl (Nat.le_of_ble_eq_true rfl) dX9_drawn_32 ⟨Nat.le_of_ble_eq_true rfl, Nat.le_of_ble_eq_true rfl⟩) (fun r_9 w_10 H locs hw hB => ?_)
      obtain ⟨hr9, hw9⟩ := hw
      have hr9 := hr9.symm
      subst hr9
      have hw9 := hw9.symm
      subst hw9
      refine z_ne0 (tgt := 40) (X := ((T : Nat) : Int)) hE dX9_drawn_35 (by decide) (nI_toInt (n := T) (by omega)) (fun c_11 => ?_) (fun c_11 => ?_)
      · obtain ⟨sn, hsn, rfl⟩ := pIn_nI (hi := 999999) c_3 (by omega)
        obtain ⟨qn, hqn, rfl⟩ := pIn_nI (hi := 60) c_8 (by omega)
        refine lv_aload_n hE.x hE.b dX9_drawn_40 rfl (lv_at hl 0 rfl) ?_
        refine lv_iload_n hE.x hE.b dX9_drawn_41 rfl (lv_at hl 1 rfl) ?_
        refine lv_i2l (v := lN sn) hE.x hE.b dX9_drawn_42 (nI_l (by omega)) ?_
        refine z_put (v := .long (lN sn)) (ty := .long) (ws' := mW g o a F (vp_updL L 14 (lN sn)) A ++ X) hE hB inX9 tyX9 tyX9_ok nmX9 0 rfl rfl 14 (by decide) q4_15 (fun _ h9 => h9) rfl (by decide +kernel) rfl rfl (Nat.le_of_ble_eq_true rfl) rfl dX9_drawn_43 (fun H locs hB => ?_)
        refine lv_iconst (v := nI 0) hE.x hE.b dX9_drawn_46 rfl ?_
        refine lv_istore_n (lv' := [(3, .int (nI 0)), (0, .ref o), (1, .int (nI sn)), (2, .int (nI qn))]) hE.x hE.b dX9_drawn_47 rfl hl (by decide) rfl (fun ls hl => ?_)
        refine lv_iconst (v := nI 0) hE.x hE.b dX9_drawn_48 rfl ?_
        refine lv_istore (lv' := [(4, .int (nI 0)), (3, .int (nI 0)), (0, .ref o), (1, .int (nI sn)), (2, .int (nI qn))]) hE.x hE.b dX9_drawn_49 hl (by decide) rfl (fun ls hl => ?_)
        have k51 : ∀ (fu : Nat) (v : Nat) (i : Nat) (lx : Int64) (F1 : Nat → Int32) (H : Heap) (locs : List Loc) (ls : Array Slot), qn - i < fu → (i ≤ qn) → (F1 16 = F 16) → (lx = lN (drX sn i)) → (drX sn i < 2147483648) → (v = cn (drP (A 0) T C sn) i) → zB g s (mW g o a F1 (vp_updL L 14 lx) A ++ X) H locs → lv_has ls 9 [(4, .int (nI i)), (3, .int (nI v)), (0, .ref o), (1, .int (nI sn)), (2, .int (nI qn))] → W p l e { frames := 6, cells := 0, slots := 0, locals := 154 } s m args below meth c H locs 0 0 (MQ below (zQi g (fun r ws => ∃ (F1 : Nat → Int32) (lx : Int64), r = (drawnR (A 0) T C (nI sn) (nI qn)) ∧ ws = mW g o a F1 (vp_updL L 14 lx) (chk (drawnOK (nI sn) (nI qn)) A) ++ X ∧ F1 16 = F 16)) args s 0 0 (zA (gz g))) (F0 m 51 ls []) := by
          intro fu
          induction fu with
          | zero => intro v i lx F1 H locs ls hfu hi h16 hLx hdl hv hB hl; exact absurd hfu (Nat.not_lt_zero _)
          | succ fu ih51 =>
            intro v i lx F1 H locs ls hfu hi h16 hLx hdl hv hB hl
            refine lv_iload hE.x hE.b dX9_drawn_51 (lv_at hl 0 rfl) ?_
            refine lv_iload_n hE.x hE.b dX9_drawn_53 rfl (lv_at hl 4 rfl) ?_
            refine z_ge (tgt := 126) (X := ((i : Nat) : Int)) (Y := ((qn : Nat) : Int)) hE dX9_drawn_54 (by decide) (nI_toInt (n := i) (by omega)) (nI_toInt (n := qn) (by omega)) (fun c_12 => ?_) (fun c_12 => ?_)
            · refine lv_iload_n hE.x hE.b dX9_drawn_126 rfl (lv_at hl 1 rfl) ?_
              exact z_iret (v := (nI v)) (ws := mW g o a F1 (vp_updL L 14 lx) A ++ X) hE hB hr (⟨F1, lx, by unfold drawnR drawnOK; simp only [c_3, c_8, Bool.and_true, Bool.true_and, if_true, rcl (show sn < 2 ^ 31 by omega), rcl (show qn < 2 ^ 31 by omega)]; rw [if_neg (by omega), hv, show i = qn by omega], by unfold chk drawnOK; simp only [c_3, c_8, Bool.and_true, Bool.true_and, if_true], h16⟩) dX9_drawn_127
            · have hvi := cn_le (drP (A 0) T C sn) i
              refine lv_aload_n hE.x hE.b dX9_drawn_57 rfl (lv_at hl 2 rfl) ?_
              refine lv_aload_n hE.x hE.b dX9_drawn_58 rfl (lv_at hl 2 rfl) ?_
              refine z_qi hB (z_cV hE hB (c_X9_towns l g o a F1 (vp_updL L 14 lx) A X T hT) q4_76 kX9_towns ⟨rfl, rfl⟩ ⟨Nat.le_of_ble_eq_true rfl, Nat.le_of_ble_eq_true rfl⟩ 0 rfl rfl rfl hl.1 rfl (Nat.le_of_ble_eq_true rfl) dX9_drawn_59 ⟨Nat.le_of_ble_eq_true rfl, Nat.le_of_ble_eq_true rfl⟩) (fun r_13 w_14 H locs hw hB => ?_)
              obtain ⟨hr9, hw9⟩ := hw
              have hr9 := hr9.symm
              subst hr9
              have hw9 := hw9.symm
              subst hw9
              refine z_qi hB (z_cV hE hB (c_X9_draw l g o a F1 (vp_updL L 14 lx) A X T (drX sn i) (by omega) (by omega) hLx hdl) q5_48 kX9_draw ⟨rfl, rfl⟩ ⟨Nat.le_of_ble_eq_true rfl, Nat.le_of_ble_eq_true rfl⟩ 0 rfl rfl rfl hl.1 rfl (Nat.le_of_ble_eq_true rfl) dX9_drawn_62 ⟨Nat.le_of_ble_eq_true rfl, Nat.le_of_ble_eq_true rfl⟩) (fun r_15 w_16 H locs hw hB => ?_)
              obtain ⟨dv_17, xv_18, hr9, hw9, hf_19, hf_20⟩ := hw
              have hr9 := hr9.symm
              subst hr9
              have hw9 := hw9.symm
              subst hw9
              have hxl1 : xv_18 < 2147483648 := by rw [hf_19]; exact nxt_lt _
              have hdl1 : dv_17 < T := by rw [hf_20]; exact Nat.mod_lt _ (by omega)
              refine lv_istore (lv' := [(5, .int (nI dv_17)), (4, .int (nI i)), (3, .int (nI v)), (0, .ref o), (1, .int (nI sn)), (2, .int (nI qn))]) hE.x hE.b dX9_drawn_65 hl (by decide) rfl (fun ls hl => ?_)
              refine lv_aload_n hE.x hE.b dX9_drawn_67 rfl (lv_at hl 3 rfl) ?_
              refine lv_bipush (v := (nI 6)) hE.x hE.b dX9_drawn_68 rfl ?_
              refine z_qi hB (z_cV hE hB (c_X9_draw l g o a F1 (vp_updL L 14 (lN xv_18)) A X 6 xv_18 (by omega) (by omega) rfl hxl1) q5_48 kX9_draw ⟨rfl, rfl⟩ ⟨Nat.le_of_ble_eq_true rfl, Nat.le_of_ble_eq_true rfl⟩ 0 rfl rfl rfl hl.1 rfl (Nat.le_of_ble_eq_true rfl) dX9_drawn_70 ⟨Nat.le_of_ble_eq_true rfl, Nat.le_of_ble_eq_true rfl⟩) (fun r_21 w_22 H locs hw hB => ?_)
              obtain ⟨dv_23, xv_24, hr9, hw9, hf_25, hf_26⟩ := hw
              have hr9 := hr9.symm
              subst hr9
              have hw9 := hw9.symm
              subst hw9
              have hxl2 : xv_24 < 2147483648 := by rw [hf_25]; exact nxt_lt _
              have hdl2 : dv_23 < 6 := by rw [hf_26]; exact Nat.mod_lt _ (by omega)
              refine lv_istore (lv' := [(6, .int (nI dv_23)), (5, .int (nI dv_17)), (4, .int (nI i)), (3, .int (nI v)), (0, .ref o), (1, .int (nI sn)), (2, .int (nI qn))]) hE.x hE.b dX9_drawn_73 hl (by decide) rfl (fun ls hl => ?_)
              refine lv_aload_n hE.x hE.b dX9_drawn_75 rfl (lv_at hl 4 rfl) ?_
              refine lv_bipush (v := (nI 60)) hE.x hE.b dX9_drawn_76 rfl ?_
              refine z_qi hB (z_cV hE hB (c_X9_draw l g o a F1 (vp_updL L 14 (lN xv_24)) A X 60 xv_24 (by omega) (by omega) rfl hxl2) q5_48 kX9_draw ⟨rfl, rfl⟩ ⟨Nat.le_of_ble_eq_true rfl, Nat.le_of_ble_eq_true rfl⟩ 0 rfl rfl rfl hl.1 rfl (Nat.le_of_ble_eq_true rfl) dX9_drawn_78 ⟨Nat.le_of_ble_eq_true rfl, Nat.le_of_ble_eq_true rfl⟩) (fun r_27 w_28 H locs hw hB => ?_)
              obtain ⟨dv_29, xv_30, hr9, hw9, hf_31, hf_32⟩ := hw
              have hr9 := hr9.symm
              subst hr9
              have hw9 := hw9.symm
              subst hw9
              have hxl3 : xv_30 < 2147483648 := by rw [hf_31]; exact nxt_lt _
              have hdl3 : dv_29 < 60 := by rw [hf_32]; exact Nat.mod_lt _ (by omega)
              refine lv_istore (lv' := [(7, .int (nI dv_29)), (6, .int (nI dv_23)), (5, .int (nI dv_17)), (4, .int (nI i)), (3, .int (nI v)), (0, .ref o), (1, .int (nI sn)), (2, .int (nI qn))]) hE.x hE.b dX9_drawn_81 hl (by decide) rfl (fun ls hl => ?_)
              refine lv_aload_n hE.x hE.b dX9_drawn_83 rfl (lv_at hl 5 rfl) ?_
              refine lv_iconst (v := nI 4) hE.x hE.b dX9_drawn_84 rfl ?_
              refine z_qi hB (z_cV hE hB (c_X9_draw l g o a F1 (vp_updL L 14 (lN xv_30)) A X 4 xv_30 (by omega) (by omega) rfl hxl3) q5_48 kX9_draw ⟨rfl, rfl⟩ ⟨Nat.le_of_ble_eq_true rfl, Nat.le_of_ble_eq_true rfl⟩ 0 rfl rfl rfl hl.1 rfl (Nat.le_of_ble_eq_true rfl) dX9_drawn_85 ⟨Nat.le_of_ble_eq_true rfl, Nat.le_of_ble_eq_true rfl⟩) (fun r_33 w_34 H locs hw hB => ?_)
              obtain ⟨dv_35, xv_36, hr9, hw9, hf_37, hf_38⟩ := hw
              have hr9 := hr9.symm
              subst hr9
              have hw9 := hw9.symm
              subst hw9
              have hxl4 : xv_36 < 2147483648 := by rw [hf_37]; exact nxt_lt _
              have hdl4 : dv_35 < 4 := by rw [hf_38]; exact Nat.mod_lt _ (by omega)
              refine lv_istore (lv' := [(8, .int (nI dv_35)), (7, .int (nI dv_29)), (6, .int (nI dv_23)), (5, .int (nI dv_17)), (4, .int (nI i)), (3, .int (nI v)), (0, .ref o), (1, .int (nI sn)), (2, .int (nI qn))]) hE.x hE.b dX9_drawn_88 hl (by decide) rfl (fun ls hl => ?_)
              refine lv_iload_n hE.x hE.b dX9_drawn_90 rfl (lv_at hl 5 rfl) ?_
              refine lv_aload_n hE.x hE.b dX9_drawn_91 rfl (lv_at hl 6 rfl) ?_
              refine lv_iload hE.x hE.b dX9_drawn_92 (lv_at hl 3 rfl) ?_
              refine lv_iload hE.x hE.b dX9_drawn_94 (lv_at hl 2 rfl) ?_
              refine lv_iload hE.x hE.b dX9_drawn_96 (lv_at hl 1 rfl) ?_
              refine lv_iload hE.x hE.b dX9_drawn_98 (lv_at hl 0 rfl) ?_
              refine lv_iconst (v := nI 2) hE.x hE.b dX9_drawn_100 rfl ?_
              refine lv_idiv hE.x hE.b dX9_drawn_101 (by decide) ?_
              refine z_top (y := (nI (dv_35 / 2))) (pk_div (by omega) (by omega) (by omega)) ?_
              refine lv_iload hE.x hE.b dX9_drawn_102 (lv_at hl 0 rfl) ?_
              refine lv_iconst (v := nI 2) hE.x hE.b dX9_drawn_104 rfl ?_
              refine lv_irem hE.x hE.b dX9_drawn_105 (by decide) ?_
              refine z_top (y := (nI (dv_35 % 2))) (pk_rem (by omega) (by omega) (by omega)) ?_
              refine lv_iconst (v := nI 0) hE.x hE.b dX9_drawn_106 rfl ?_
              refine z_qi hB (z_cV hE hB (c_X9_isAllowed l g o a F1 (vp_updL L 14 (lN xv_36)) A X C dv_17 (nI dv_23) (nI dv_29) (nI (dv_35 / 2)) (nI (dv_35 % 2)) 0 hC (by omega) (by omega) (by omega)) q4_207 kX9_isAllowed ⟨rfl, rfl⟩ ⟨Nat.le_of_ble_eq_true rfl, Nat.le_of_ble_eq_true rfl⟩ 0 rfl rfl rfl hl.1 rfl (Nat.le_of_ble_eq_true rfl) dX9_drawn_107 ⟨Nat.le_of_ble_eq_true rfl, Nat.le_of_ble_eq_true rfl⟩) (fun r_39 w_40 H locs hw hB => ?_)
              obtain ⟨F1_41, hr9, hw9, hf_42⟩ := hw
              have hr9 := hr9.symm
              subst hr9
              have hw9 := hw9.symm
              subst hw9
              have h16 := hf_42.trans h16
              refine z_bf (b := (isA (A 0) C dv_17 (nI dv_23) (nI dv_29) (nI (dv_35 / 2)) (nI (dv_35 % 2)) 0)) (tgt := 117) hE dX9_drawn_110 (by decide) (fun c_43 => ?_) (fun c_43 => ?_)
              · refine lv_iconst (v := nI 0) hE.x hE.b dX9_drawn_117 rfl ?_
                refine z_iaddN hE dX9_drawn_118 ?_
                refine lv_istore_n (lv' := [(3, .int (nI (v + 0))), (8, .int (nI dv_35)), (7, .int (nI dv_29)), (6, .int (nI dv_23)), (5, .int (nI dv_17)), (4, .int (nI i)), (0, .ref o), (1, .int (nI sn)), (2, .int (nI qn))]) hE.x hE.b dX9_drawn_119 rfl hl (by decide) rfl (fun ls hl => ?_)
                refine lv_iinc (v := (nI (i + 1))) (lv' := [(4, .int (nI (i + 1))), (3, .int (nI (v + 0))), (8, .int (nI dv_35)), (7, .int (nI dv_29)), (6, .int (nI dv_23)), (5, .int (nI dv_17)), (0, .ref o), (1, .int (nI sn)), (2, .int (nI qn))]) hE.x hE.b dX9_drawn_120 hl (k := 5) rfl (nI_add _ _) (by decide) rfl (fun ls hl => ?_)
                refine lv_goto (tgt := 51) hE.x hE.b dX9_drawn_123 (by decide) ?_
                exact ih51 (v + 0) (i + 1) (lN xv_36) F1_41 _ _ _ (by omega) (by omega) h16 (by simp only [drX]; rw [← hf_19, ← hf_25, ← hf_31, ← hf_37]) (by simp only [drX]; exact nxt_lt _) (by rw [cn_f (P := (drP (A 0) T C sn)) (by unfold drP; rw [← hf_19, ← hf_25, ← hf_31, ← hf_37, ← hf_20, ← hf_26, ← hf_32, ← hf_38]; exact c_43), hv]; rfl) hB (lv_sub hl [0, 1, 6, 7, 8] rfl)
              · refine lv_iconst (v := nI 1) hE.x hE.b dX9_drawn_113 rfl ?_
                refine lv_goto (tgt := 118) hE.x hE.b dX9_drawn_114 (by decide) ?_
                refine z_iaddN hE dX9_drawn_118 ?_
                refine lv_istore_n (lv' := [(3, .int (nI (v + 1))), (8, .int (nI dv_35)), (7, .int (nI dv_29)), (6, .int (nI dv_23)), (5, .int (nI dv_17)), (4, .int (nI i)), (0, .ref o), (1, .int (nI sn)), (2, .int (nI qn))]) hE.x hE.b dX9_drawn_119 rfl hl (by decide) rfl (fun ls hl => ?_)
                refine lv_iinc (v := (nI (i + 1))) (lv' := [(4, .int (nI (i + 1))), (3, .int (nI (v + 1))), (8, .int (nI dv_35)), (7, .int (nI dv_29)), (6, .int (nI dv_23)), (5, .int (nI dv_17)), (0, .ref o), (1, .int (nI sn)), (2, .int (nI qn))]) hE.x hE.b dX9_drawn_120 hl (k := 5) rfl (nI_add _ _) (by decide) rfl (fun ls hl => ?_)
                refine lv_goto (tgt := 51) hE.x hE.b dX9_drawn_123 (by decide) ?_
                exact ih51 (v + 1) (i + 1) (lN xv_36) F1_41 _ _ _ (by omega) (by omega) h16 (by simp only [drX]; rw [← hf_19, ← hf_25, ← hf_31, ← hf_37]) (by simp only [drX]; exact nxt_lt _) (by rw [cn_t (P := (drP (A 0) T C sn)) (by unfold drP; rw [← hf_19, ← hf_25, ← hf_31, ← hf_37, ← hf_20, ← hf_26, ← hf_32, ← hf_38]; exact c_43), hv]) hB (lv_sub hl [0, 1, 6, 7, 8] rfl)
        exact k51 (qn - 0 + 1) 0 0 (lN sn) F _ _ _ (Nat.lt_succ_self _) (by omega) h16 rfl (by show sn < _; omega) rfl hB hl
      · refine lv_iconst (v := (-1)) hE.x hE.b dX9_drawn_38 rfl ?_
        exact z_iret (v := (-1)) (ws := mW g o a F L A ++ X) hE hB hr (⟨F, L 14, by unfold drawnR drawnOK; simp only [c_3, c_8, Bool.and_true, Bool.true_and, if_true]; rw [if_pos (by omega)], by unfold chk drawnOK; simp only [c_3, c_8, Bool.and_true, Bool.true_and, if_true]; rfl, rfl⟩) dX9_drawn_39
    · refine lv_aload_n hE.x hE.b dX9_drawn_24 rfl (lv_at hl 0 rfl) ?_
      refine lv_bipush (v := (-2)) hE.x hE.b dX9_drawn_25 rfl ?_
      refine z_qi hB (z_cV hE hB (c_X9_bad l g o a F L A X (-2)) q4_91 kX9_bad ⟨rfl, rfl⟩ ⟨Nat.le_of_ble_eq_true rfl, Nat.le_of_ble_eq_true rfl⟩ 0 rfl rfl rfl hl.1 rfl (Nat.le_of_ble_eq_true rfl) dX9_drawn_27 ⟨Nat.le_of_ble_eq_true rfl, Nat.le_of_ble_eq_true rfl⟩) (fun r_44 w_45 H locs hw hB => ?_)
      obtain ⟨hr9, hw9⟩ := hw
      have hr9 := hr9.symm
      subst hr9
      have hw9 := hw9.symm
      subst hw9
      exact z_iret (v := (-2)) (ws := mW g o a F L (bump 0 A) ++ X) hE hB hr (⟨F, L 14, by unfold drawnR drawnOK; simp only [c_3, c_8, Bool.and_false, Bool.false_and, Bool.false_eq_true, if_false, Bool.and_true, Bool.true_and], by unfold chk drawnOK; simp only [c_3, c_8, Bool.and_false, Bool.false_and, Bool.false_eq_true, if_false, Bool.and_true, Bool.true_and]; rfl, rfl⟩) dX9_drawn_30

set_option maxHeartbeats 4000000 in
set_option maxRecDepth 100000 in
theorem c_X9_type (l : Launch) (g : zG) (o : Nat) (a : Nat → Nat) (F : Nat → Int32) (L : Nat → Int64) (A : Nat → Nat → Int32) (X : va_W) (ln : Nat) (k : Int32) (hln : F 16 = nI ln) (hl150 : ln ≤ 150) : Met l yX9_type (Cond.code yX9_type cX9_type 2 (some .int) :: TBL) { frames := 1, cells := 0, slots := 0, locals := 25 } (zPc [.ref o, .int k] g (mW g o a F L A ++ X)) (zQi g (fun r ws => r = (typeR ln k) ∧ ws = mW g o a (typeF F ln k) L (typeA A ln k) ++ X)) 0 0 (zA (gz g)) := by
  refine z_start (by decide +kernel) rfl (Nat.le_of_ble_eq_true rfl) ?_
  intro p e s m args below meth c ls hE hr hnm hB hl
  have hl : lv_has ls 2 [(0, .ref o), (1, .int k)] := hl
  revert hB
  generalize s.heap = H
  generalize ([] : List Loc) = locs
  intro hB
  refine lv_iload_n hE.x hE.b dX9_type_0 rfl (lv_at hl 1 rfl) ?_
  refine lv_i2l hE.x hE.b dX9_type_1 rfl ?_
  refine lv_lconst (v := lN 0) hE.x hE.b dX9_type_2 rfl ?_
  refine lv_ldc2 (v := lN 127) hE.x hE.b hE.o (hE.t _ q5_60) dX9_type_3 ?_
  refine z_qi hB (z_cS hE hB (c_X9_in l g (Int32.toInt64 k) (lN 0) (lN 127) (Int32.toInt k) 0 127 (mW g o a F L A ++ X) (Int32.toInt_toInt64 _) (by decide) (by decide)) q4_88 kX9_in ⟨rfl, rfl⟩ ⟨Nat.le_of_ble_eq_true rfl, Nat.le_of_ble_eq_true rfl⟩ rfl hl.1 rfl (Nat.le_of_ble_eq_true rfl) dX9_type_6 ⟨Nat.le_of_ble_eq_true rfl, Nat.le_of_ble_eq_true rfl⟩) (fun r_1 w_2 H locs hw hB => ?_)
  obtain ⟨hr9, hw9⟩ := hw
  have hr9 := hr9.symm
  subst hr9
  have hw9 := hw9.symm
  subst hw9
  refine z_bt (b := (inZ 0 127 (Int32.toInt k))) (tgt := 19) hE dX9_type_9 (by decide) (fun c_3 => ?_) (fun c_3 => ?_)
  · refine lv_aload_n hE.x hE.b dX9_type_19 rfl (lv_at hl 0 rfl) ?_
    refine z_get (v := .int (F 16)) hE hB inX9 0 rfl rfl 16 (by decide) q4_17 (fun _ h9 => h9) rfl dX9_type_20 ?_
    refine z_top (y := (nI ln)) hln ?_
    refine lv_sipush (v := (nI 150)) hE.x hE.b dX9_type_23 rfl ?_
    refine z_ne (tgt := 34) (X := ((ln : Nat) : Int)) (Y := (150 : Int)) hE dX9_type_26 (by decide) (nI_toInt (n := ln) (by omega)) rfl (fun c_4 => ?_) (fun c_4 => ?_)
    · refine lv_aload_n hE.x hE.b dX9_type_34 rfl (lv_at hl 0 rfl) ?_
      refine z_get (v := .ref (a 5)) hE hB inX9 0 rfl rfl 15 (by decide) q4_16 (fun _ h9 => h9) rfl dX9_type_35 ?_
      refine lv_aload_n hE.x hE.b dX9_type_38 rfl (lv_at hl 0 rfl) ?_
      refine z_get (v := .int (F 16)) hE hB inX9 0 rfl rfl 16 (by decide) q4_17 (fun _ h9 => h9) rfl dX9_type_39 ?_
      refine z_top (y := (nI ln)) hln ?_
      refine lv_iload_n hE.x hE.b dX9_type_42 rfl (lv_at hl 1 rfl) ?_
      refine z_iast (k := ln) (f := (A 5)) (x := k) (ws' := mW g o a F L (updA A 5 (upd (A 5) ln k)) ++ X) hE hB 6 rfl (by omega) (by decide) rfl dX9_type_43 (fun H locs hB => ?_)
      refine lv_aload_n hE.x hE.b dX9_type_44 rfl (lv_at hl 0 rfl) ?_
      refine lv_dup hE.x hE.b dX9_type_45 rfl ?_
      refine z_get (v := .int (F 16)) hE hB inX9 0 rfl rfl 16 (by decide) q4_17 (fun _ h9 => h9) rfl dX9_type_46 ?_
      refine z_top (y := (nI ln)) hln ?_
      refine lv_iconst (v := nI 1) hE.x hE.b dX9_type_49 rfl ?_
      refine z_iaddN hE dX9_type_50 ?_
      refine z_put (v := .int (nI (ln + 1))) (ty := .int) (ws' := mW g o a (upd F 16 (nI (ln + 1))) L (updA A 5 (upd (A 5) ln k)) ++ X) hE hB inX9 tyX9 tyX9_ok nmX9 0 rfl rfl 16 (by decide) q4_17 (fun _ h9 => h9) rfl (by decide +kernel) rfl rfl (Nat.le_of_ble_eq_true rfl) rfl dX9_type_51 (fun H locs hB => ?_)
      refine lv_aload_n hE.x hE.b dX9_type_54 rfl (lv_at hl 0 rfl) ?_
      refine z_get (v := .int (nI (ln + 1))) hE hB inX9 0 rfl rfl 16 (by decide) q4_17 (fun _ h9 => h9) rfl dX9_type_55 ?_
      exact z_iret (v := (nI (ln + 1))) (ws := mW g o a (upd F 16 (nI (ln + 1))) L (updA A 5 (upd (A 5) ln k)) ++ X) hE hB hr (⟨by unfold typeR pIn; rw [c_3, if_pos rfl, if_neg (by omega)], by unfold typeF typeA pIn; rw [c_3, if_pos rfl, if_neg (by omega), if_pos rfl, if_neg (by omega)]⟩) dX9_type_58
    · refine lv_aload_n hE.x hE.b dX9_type_29 rfl (lv_at hl 0 rfl) ?_
      refine z_qi hB (z_cV hE hB (c_X9_full l g o a F L A X) q4_95 kX9_full ⟨rfl, rfl⟩ ⟨Nat.le_of_ble_eq_true rfl, Nat.le_of_ble_eq_true rfl⟩ 0 rfl rfl rfl hl.1 rfl (Nat.le_of_ble_eq_true rfl) dX9_type_30 ⟨Nat.le_of_ble_eq_true rfl, Nat.le_of_ble_eq_true rfl⟩) (fun r_5 w_6 H locs hw hB => ?_)
      obtain ⟨hr9, hw9⟩ := hw
      have hr9 := hr9.symm
      subst hr9
      have hw9 := hw9.symm
      subst hw9
      exact z_iret (v := (-4)) (ws := mW g o a F L (bump 2 A) ++ X) hE hB hr (⟨by unfold typeR pIn; rw [c_3, if_pos rfl, if_pos (by omega)], by unfold typeF typeA pIn; rw [c_3, if_pos rfl, if_pos (by omega), if_pos rfl, if_pos (by omega)]⟩) dX9_type_33
  · refine lv_aload_n hE.x hE.b dX9_type_12 rfl (lv_at hl 0 rfl) ?_
    refine lv_bipush (v := (-2)) hE.x hE.b dX9_type_13 rfl ?_
    refine z_qi hB (z_cV hE hB (c_X9_bad l g o a F L A X (-2)) q4_91 kX9_bad ⟨rfl, rfl⟩ ⟨Nat.le_of_ble_eq_true rfl, Nat.le_of_ble_eq_true rfl⟩ 0 rfl rfl rfl hl.1 rfl (Nat.le_of_ble_eq_true rfl) dX9_type_15 ⟨Nat.le_of_ble_eq_true rfl, Nat.le_of_ble_eq_true rfl⟩) (fun r_7 w_8 H locs hw hB => ?_)
    obtain ⟨hr9, hw9⟩ := hw
    have hr9 := hr9.symm
    subst hr9
    have hw9 := hw9.symm
    subst hw9
    exact z_iret (v := (-2)) (ws := mW g o a F L (bump 0 A) ++ X) hE hB hr (⟨by unfold typeR pIn; rw [c_3]; rfl, by unfold typeF typeA pIn; rw [c_3]; rfl⟩) dX9_type_18

set_option maxHeartbeats 4000000 in
set_option maxRecDepth 100000 in
theorem c_X9_clear (l : Launch) (g : zG) (o : Nat) (a : Nat → Nat) (F : Nat → Int32) (L : Nat → Int64) (A : Nat → Nat → Int32) (X : va_W) (ln : Nat) (hln : F 16 = nI ln) (hl150 : ln ≤ 150) : Met l yX9_clear (Cond.code yX9_clear cX9_clear 2 (some .int) :: TBL) { frames := 0, cells := 0, slots := 0, locals := 0 } (zPc [.ref o] g (mW g o a F L A ++ X)) (zQi g (fun r ws => r = nI ln ∧ ws = mW g o a (upd F 16 (nI 0)) L A ++ X)) 0 0 (zA (gz g)) := by
  refine z_start (by decide +kernel) rfl (Nat.le_of_ble_eq_true rfl) ?_
  intro p e s m args below meth c ls hE hr hnm hB hl
  have hl : lv_has ls 2 [(0, .ref o)] := hl
  revert hB
  generalize s.heap = H
  generalize ([] : List Loc) = locs
  intro hB
  refine lv_aload_n hE.x hE.b dX9_clear_0 rfl (lv_at hl 0 rfl) ?_
  refine z_get (v := .int (F 16)) hE hB inX9 0 rfl rfl 16 (by decide) q4_17 (fun _ h9 => h9) rfl dX9_clear_1 ?_
  refine z_top (y := (nI ln)) hln ?_
  refine lv_istore_n (lv' := [(1, .int (nI ln)), (0, .ref o)]) hE.x hE.b dX9_clear_4 rfl hl (by decide) rfl (fun ls hl => ?_)
  refine lv_aload_n hE.x hE.b dX9_clear_5 rfl (lv_at hl 1 rfl) ?_
  refine lv_iconst (v := nI 0) hE.x hE.b dX9_clear_6 rfl ?_
  refine z_put (v := .int (nI 0)) (ty := .int) (ws' := mW g o a (upd F 16 (nI 0)) L A ++ X) hE hB inX9 tyX9 tyX9_ok nmX9 0 rfl rfl 16 (by decide) q4_17 (fun _ h9 => h9) rfl (by decide +kernel) rfl rfl (Nat.le_of_ble_eq_true rfl) rfl dX9_clear_7 (fun H locs hB => ?_)
  refine lv_iload_n hE.x hE.b dX9_clear_10 rfl (lv_at hl 0 rfl) ?_
  exact z_iret (v := (nI ln)) (ws := mW g o a (upd F 16 (nI 0)) L A ++ X) hE hB hr (⟨rfl, rfl⟩) dX9_clear_11

set_option maxHeartbeats 4000000 in
set_option maxRecDepth 100000 in
theorem c_X9_part (l : Launch) (g : zG) (o : Nat) (a : Nat → Nat) (F : Nat → Int32) (L : Nat → Int64) (A : Nat → Nat → Int32) (X : va_W) (w : Int32)  : Met l yX9_part (Cond.code yX9_part cX9_part 2 (some .long) :: TBL) { frames := 1, cells := 0, slots := 0, locals := 21 } (zPc [.ref o, .int w] g (mW g o a F L A ++ X)) (zQl g (fun r ws => r = (partR L w) ∧ ws = mW g o a F L (partA A w) ++ X)) 0 0 (zA (gz g)) := by
  refine z_start (by decide +kernel) rfl (Nat.le_of_ble_eq_true rfl) ?_
  intro p e s m args below meth c ls hE hr hnm hB hl
  have hl : lv_has ls 2 [(0, .ref o), (1, .int w)] := hl
  revert hB
  generalize s.heap = H
  generalize ([] : List Loc) = locs
  intro hB
  refine lv_iload_n hE.x hE.b dX9_part_0 rfl (lv_at hl 1 rfl) ?_
  refine lv_if_ne (tgt := 11) hE.x hE.b dX9_part_1 (by decide) (fun c_1 => ?_) (fun c_1 => ?_)
  · refine lv_iload_n hE.x hE.b dX9_part_11 rfl (lv_at hl 1 rfl) ?_
    refine lv_iconst (v := nI 1) hE.x hE.b dX9_part_12 rfl ?_
    refine lv_icmp_ne (tgt := 23) hE.x hE.b dX9_part_13 (by decide) (fun c_2 => ?_) (fun c_2 => ?_)
    · refine lv_aload_n hE.x hE.b dX9_part_23 rfl (lv_at hl 0 rfl) ?_
      refine lv_bipush (v := (-2)) hE.x hE.b dX9_part_24 rfl ?_
      refine z_qi hB (z_cV hE hB (c_X9_bad l g o a F L A X (-2)) q4_91 kX9_bad ⟨rfl, rfl⟩ ⟨Nat.le_of_ble_eq_true rfl, Nat.le_of_ble_eq_true rfl⟩ 0 rfl rfl rfl hl.1 rfl (Nat.le_of_ble_eq_true rfl) dX9_part_26 ⟨Nat.le_of_ble_eq_true rfl, Nat.le_of_ble_eq_true rfl⟩) (fun r_3 w_4 H locs hw hB => ?_)
      obtain ⟨hr9, hw9⟩ := hw
      have hr9 := hr9.symm
      subst hr9
      have hw9 := hw9.symm
      subst hw9
      refine lv_i2l hE.x hE.b dX9_part_29 rfl ?_
      exact z_lret (v := (Int32.toInt64 (-2))) (ws := mW g o a F L (bump 0 A) ++ X) hE hB hr (⟨by unfold partR; rw [if_neg c_1, if_neg c_2], by unfold partA; rw [if_neg c_1, if_neg c_2]⟩) dX9_part_30
    · refine lv_aload_n hE.x hE.b dX9_part_16 rfl (lv_at hl 0 rfl) ?_
      refine z_get (v := .long (L 5)) hE hB inX9 0 rfl rfl 5 (by decide) q4_6 (fun _ h9 => h9) rfl dX9_part_17 ?_
      refine lv_goto (tgt := 30) hE.x hE.b dX9_part_20 (by decide) ?_
      exact z_lret (v := (L 5)) (ws := mW g o a F L A ++ X) hE hB hr (⟨by unfold partR; rw [if_neg c_1, if_pos c_2], by unfold partA; rw [if_neg c_1, if_pos c_2]⟩) dX9_part_30
  · refine lv_aload_n hE.x hE.b dX9_part_4 rfl (lv_at hl 0 rfl) ?_
    refine z_get (v := .long (L 4)) hE hB inX9 0 rfl rfl 4 (by decide) q4_5 (fun _ h9 => h9) rfl dX9_part_5 ?_
    refine lv_goto (tgt := 30) hE.x hE.b dX9_part_8 (by decide) ?_
    exact z_lret (v := (L 4)) (ws := mW g o a F L A ++ X) hE hB hr (⟨by unfold partR; rw [if_pos c_1], by unfold partA; rw [if_pos c_1]⟩) dX9_part_30

set_option maxHeartbeats 4000000 in
set_option maxRecDepth 100000 in
theorem c_X9_image (l : Launch) (g : zG) (o : Nat) (a : Nat → Nat) (F : Nat → Int32) (L : Nat → Int64) (A : Nat → Nat → Int32) (X : va_W) (w : Int32)  : Met l yX9_image (Cond.code yX9_image cX9_image 3 (some .int) :: TBL) { frames := 1, cells := 0, slots := 0, locals := 25 } (zPc [.ref o, .int w] g (mW g o a F L A ++ X)) (zQi g (fun r ws => r = (imageR w) ∧ ws = mW g o a F L (imageA A w) ++ X)) 0 0 (zA (gz g)) := by
  refine z_start (by decide +kernel) rfl (Nat.le_of_ble_eq_true rfl) ?_
  intro p e s m args below meth c ls hE hr hnm hB hl
  have hl : lv_has ls 3 [(0, .ref o), (1, .int w)] := hl
  revert hB
  generalize s.heap = H
  generalize ([] : List Loc) = locs
  intro hB
  refine lv_iload_n hE.x hE.b dX9_image_0 rfl (lv_at hl 1 rfl) ?_
  refine lv_i2l hE.x hE.b dX9_image_1 rfl ?_
  refine lv_lconst (v := lN 0) hE.x hE.b dX9_image_2 rfl ?_
  refine lv_lconst (v := lN 1) hE.x hE.b dX9_image_3 rfl ?_
  refine z_qi hB (z_cS hE hB (c_X9_in l g (Int32.toInt64 w) (lN 0) (lN 1) (Int32.toInt w) 0 1 (mW g o a F L A ++ X) (Int32.toInt_toInt64 _) (by decide) (by decide)) q4_88 kX9_in ⟨rfl, rfl⟩ ⟨Nat.le_of_ble_eq_true rfl, Nat.le_of_ble_eq_true rfl⟩ rfl hl.1 rfl (Nat.le_of_ble_eq_true rfl) dX9_image_4 ⟨Nat.le_of_ble_eq_true rfl, Nat.le_of_ble_eq_true rfl⟩) (fun r_1 w_2 H locs hw hB => ?_)
  obtain ⟨hr9, hw9⟩ := hw
  have hr9 := hr9.symm
  subst hr9
  have hw9 := hw9.symm
  subst hw9
  refine z_bt (b := (inZ 0 1 (Int32.toInt w))) (tgt := 17) hE dX9_image_7 (by decide) (fun c_3 => ?_) (fun c_3 => ?_)
  · obtain ⟨i, hi, rfl⟩ := pIn_nI (hi := 1) c_3 (by omega)
    refine lv_iconst (v := nI 0) hE.x hE.b dX9_image_17 rfl ?_
    refine lv_istore_n (lv' := [(2, .int (nI 0)), (0, .ref o), (1, .int (nI i))]) hE.x hE.b dX9_image_18 rfl hl (by decide) rfl (fun ls hl => ?_)
    have k19 : ∀ (fu : Nat) (k : Nat) (f : Nat → Int32) (H : Heap) (locs : List Loc) (ls : Array Slot), 454 - k < fu → (k ≤ 454) → (∀ x, f x = if 454 * i ≤ x ∧ x < 454 * i + k then A 0 (x - 454 * i) else A 1 x) → zB g s (mW g o a F L (updA A 1 f) ++ X) H locs → lv_has ls 3 [(2, .int (nI k)), (0, .ref o), (1, .int (nI i))] → W p l e { frames := 1, cells := 0, slots := 0, locals := 25 } s m args below meth c H locs 0 0 (MQ below (zQi g (fun r ws => r = (imageR (nI i)) ∧ ws = mW g o a F L (imageA A (nI i)) ++ X)) args s 0 0 (zA (gz g))) (F0 m 19 ls []) := by
      intro fu
      induction fu with
      | zero => intro k f H locs ls hfu hk hf hB hl; exact absurd hfu (Nat.not_lt_zero _)
      | succ fu ih19 =>
        intro k f H locs ls hfu hk hf hB hl
        refine lv_iload_n hE.x hE.b dX9_image_19 rfl (lv_at hl 0 rfl) ?_
        refine lv_sipush (v := (nI 454)) hE.x hE.b dX9_image_20 rfl ?_
        refine z_ge (tgt := 50) (X := ((k : Nat) : Int)) (Y := (454 : Int)) hE dX9_image_23 (by decide) (nI_toInt (n := k) (by omega)) rfl (fun c_4 => ?_) (fun c_4 => ?_)
        · refine lv_aload_n hE.x hE.b dX9_image_50 rfl (lv_at hl 1 rfl) ?_
          refine z_get (v := .ref (a 2)) hE hB inX9 0 rfl rfl 2 (by decide) q4_3 (fun _ h9 => h9) rfl dX9_image_51 ?_
          refine lv_iload_n hE.x hE.b dX9_image_54 rfl (lv_at hl 2 rfl) ?_
          refine lv_iconst (v := nI 1) hE.x hE.b dX9_image_55 rfl ?_
          refine z_zast (k := i) (f := (A 2)) (x := (nI 1)) (ws' := mW g o a F L (updA (updA A 1 f) 2 (upd (A 2) i (nI 1))) ++ X) hE hB 3 rfl (by omega) (by decide) rfl rfl dX9_image_56 (fun H locs hB => ?_)
          refine lv_iconst (v := nI 1) hE.x hE.b dX9_image_57 rfl ?_
          exact z_iret (v := (nI 1)) (ws := mW g o a F L (updA (updA A 1 f) 2 (upd (A 2) i (nI 1))) ++ X) hE hB hr (⟨by unfold imageR pIn; rw [c_3]; rfl, by unfold imageA pIn; rw [c_3, if_pos rfl, rcl (show i < 2 ^ 31 by omega)]; rw [show f = nIm (A 1) (A 0) i from funext fun x => by rw [hf x]; unfold nIm; rw [show k = 454 by omega]]⟩) dX9_image_58
        · refine lv_aload_n hE.x hE.b dX9_image_26 rfl (lv_at hl 1 rfl) ?_
          refine z_get (v := .ref (a 1)) hE hB inX9 0 rfl rfl 1 (by decide) q4_2 (fun _ h9 => h9) rfl dX9_image_27 ?_
          refine lv_sipush (v := (nI 454)) hE.x hE.b dX9_image_30 rfl ?_
          refine lv_iload_n hE.x hE.b dX9_image_33 rfl (lv_at hl 2 rfl) ?_
          refine z_imulN hE dX9_image_34 ?_
          refine lv_iload_n hE.x hE.b dX9_image_35 rfl (lv_at hl 0 rfl) ?_
          refine z_iaddN hE dX9_image_36 ?_
          refine lv_aload_n hE.x hE.b dX9_image_37 rfl (lv_at hl 1 rfl) ?_
          refine z_get (v := .ref (a 0)) hE hB inX9 0 rfl rfl 0 (by decide) q4_1 (fun _ h9 => h9) rfl dX9_image_38 ?_
          refine lv_iload_n hE.x hE.b dX9_image_41 rfl (lv_at hl 0 rfl) ?_
          refine z_iald (k := k) (f := (A 0)) hE hB 1 rfl (by omega) (by decide) dX9_image_42 ?_
          refine z_iast (k := ((454 * i) + k)) (f := f) (x := ((A 0) k)) (ws' := mW g o a F L (updA A 1 (upd f ((454 * i) + k) ((A 0) k))) ++ X) hE hB 2 rfl (by omega) (by decide) rfl dX9_image_43 (fun H locs hB => ?_)
          refine lv_iinc (v := (nI (k + 1))) (lv' := [(2, .int (nI (k + 1))), (0, .ref o), (1, .int (nI i))]) hE.x hE.b dX9_image_44 hl (k := 0) rfl (nI_add _ _) (by decide) rfl (fun ls hl => ?_)
          refine lv_goto (tgt := 19) hE.x hE.b dX9_image_47 (by decide) ?_
          exact ih19 (k + 1) (upd f ((454 * i) + k) ((A 0) k)) _ _ _ (by omega) (by omega) (fun x => by simp only [upd]; rw [hf x]; (repeat' split) <;> first | rfl | omega | (congr 1; omega)) hB hl
    exact k19 (454 - 0 + 1) 0 (A 1) _ _ _ (Nat.lt_succ_self _) (by omega) (fun x => by rw [if_neg (by omega)]) hB hl
  · refine lv_aload_n hE.x hE.b dX9_image_10 rfl (lv_at hl 0 rfl) ?_
    refine lv_bipush (v := (-2)) hE.x hE.b dX9_image_11 rfl ?_
    refine z_qi hB (z_cV hE hB (c_X9_bad l g o a F L A X (-2)) q4_91 kX9_bad ⟨rfl, rfl⟩ ⟨Nat.le_of_ble_eq_true rfl, Nat.le_of_ble_eq_true rfl⟩ 0 rfl rfl rfl hl.1 rfl (Nat.le_of_ble_eq_true rfl) dX9_image_13 ⟨Nat.le_of_ble_eq_true rfl, Nat.le_of_ble_eq_true rfl⟩) (fun r_5 w_6 H locs hw hB => ?_)
    obtain ⟨hr9, hw9⟩ := hw
    have hr9 := hr9.symm
    subst hr9
    have hw9 := hw9.symm
    subst hw9
    exact z_iret (v := (-2)) (ws := mW g o a F L (bump 0 A) ++ X) hE hB hr (⟨by unfold imageR pIn; rw [c_3]; rfl, by unfold imageA pIn; rw [c_3]; rfl⟩) dX9_image_16

set_option maxHeartbeats 4000000 in
set_option maxRecDepth 100000 in
theorem c_X9_from (l : Launch) (g : zG) (o : Nat) (a : Nat → Nat) (F : Nat → Int32) (L : Nat → Int64) (A : Nat → Nat → Int32) (X : va_W) (w : Int32)  : Met l yX9_from (Cond.code yX9_from cX9_from 3 (some .int) :: TBL) { frames := 1, cells := 0, slots := 0, locals := 25 } (zPc [.ref o, .int w] g (mW g o a F L A ++ X)) (zQi g (fun r ws => r = (fromR A w) ∧ ws = mW g o a F L (fromA A w) ++ X)) 0 0 (zA (gz g)) := by
  refine z_start (by decide +kernel) rfl (Nat.le_of_ble_eq_true rfl) ?_
  intro p e s m args below meth c ls hE hr hnm hB hl
  have hl : lv_has ls 3 [(0, .ref o), (1, .int w)] := hl
  revert hB
  generalize s.heap = H
  generalize ([] : List Loc) = locs
  intro hB
  refine lv_iload_n hE.x hE.b dX9_from_0 rfl (lv_at hl 1 rfl) ?_
  refine lv_i2l hE.x hE.b dX9_from_1 rfl ?_
  refine lv_lconst (v := lN 0) hE.x hE.b dX9_from_2 rfl ?_
  refine lv_lconst (v := lN 1) hE.x hE.b dX9_from_3 rfl ?_
  refine z_qi hB (z_cS hE hB (c_X9_in l g (Int32.toInt64 w) (lN 0) (lN 1) (Int32.toInt w) 0 1 (mW g o a F L A ++ X) (Int32.toInt_toInt64 _) (by decide) (by decide)) q4_88 kX9_in ⟨rfl, rfl⟩ ⟨Nat.le_of_ble_eq_true rfl, Nat.le_of_ble_eq_true rfl⟩ rfl hl.1 rfl (Nat.le_of_ble_eq_true rfl) dX9_from_4 ⟨Nat.le_of_ble_eq_true rfl, Nat.le_of_ble_eq_true rfl⟩) (fun r_1 w_2 H locs hw hB => ?_)
  obtain ⟨hr9, hw9⟩ := hw
  have hr9 := hr9.symm
  subst hr9
  have hw9 := hw9.symm
  subst hw9
  refine z_bt (b := (inZ 0 1 (Int32.toInt w))) (tgt := 17) hE dX9_from_7 (by decide) (fun c_3 => ?_) (fun c_3 => ?_)
  · obtain ⟨i, hi, rfl⟩ := pIn_nI (hi := 1) c_3 (by omega)
    refine lv_aload_n hE.x hE.b dX9_from_17 rfl (lv_at hl 0 rfl) ?_
    refine z_get (v := .ref (a 2)) hE hB inX9 0 rfl rfl 2 (by decide) q4_3 (fun _ h9 => h9) rfl dX9_from_18 ?_
    refine lv_iload_n hE.x hE.b dX9_from_21 rfl (lv_at hl 1 rfl) ?_
    refine z_zald (k := i) (f := (A 2)) hE hB 3 rfl (by omega) (by decide) dX9_from_22 ?_
    refine lv_if_ne (tgt := 31) hE.x hE.b dX9_from_23 (by decide) (fun c_4 => ?_) (fun c_4 => ?_)
    · refine lv_iconst (v := nI 0) hE.x hE.b dX9_from_31 rfl ?_
      refine lv_istore_n (lv' := [(2, .int (nI 0)), (0, .ref o), (1, .int (nI i))]) hE.x hE.b dX9_from_32 rfl hl (by decide) rfl (fun ls hl => ?_)
      have k33 : ∀ (fu : Nat) (k : Nat) (f : Nat → Int32) (H : Heap) (locs : List Loc) (ls : Array Slot), 454 - k < fu → (k ≤ 454) → (∀ x, f x = if x < k then A 1 (454 * i + x) else A 0 x) → zB g s (mW g o a F L (updA A 0 f) ++ X) H locs → lv_has ls 3 [(2, .int (nI k)), (0, .ref o), (1, .int (nI i))] → W p l e { frames := 1, cells := 0, slots := 0, locals := 25 } s m args below meth c H locs 0 0 (MQ below (zQi g (fun r ws => r = (fromR A (nI i)) ∧ ws = mW g o a F L (fromA A (nI i)) ++ X)) args s 0 0 (zA (gz g))) (F0 m 33 ls []) := by
        intro fu
        induction fu with
        | zero => intro k f H locs ls hfu hk hf hB hl; exact absurd hfu (Nat.not_lt_zero _)
        | succ fu ih33 =>
          intro k f H locs ls hfu hk hf hB hl
          refine lv_iload_n hE.x hE.b dX9_from_33 rfl (lv_at hl 0 rfl) ?_
          refine lv_sipush (v := (nI 454)) hE.x hE.b dX9_from_34 rfl ?_
          refine z_ge (tgt := 64) (X := ((k : Nat) : Int)) (Y := (454 : Int)) hE dX9_from_37 (by decide) (nI_toInt (n := k) (by omega)) rfl (fun c_5 => ?_) (fun c_5 => ?_)
          · refine lv_iconst (v := nI 1) hE.x hE.b dX9_from_64 rfl ?_
            exact z_iret (v := (nI 1)) (ws := mW g o a F L (updA A 0 f) ++ X) hE hB hr (⟨by unfold fromR pIn; rw [c_3, if_pos rfl, rcl (show i < 2 ^ 31 by omega), if_neg c_4], by unfold fromA pIn; rw [c_3, if_pos rfl, rcl (show i < 2 ^ 31 by omega), if_neg c_4]; rw [show f = nFr (A 1) (A 0) i from funext fun x => by rw [hf x]; unfold nFr; rw [show k = 454 by omega]]⟩) dX9_from_65
          · refine lv_aload_n hE.x hE.b dX9_from_40 rfl (lv_at hl 1 rfl) ?_
            refine z_get (v := .ref (a 0)) hE hB inX9 0 rfl rfl 0 (by decide) q4_1 (fun _ h9 => h9) rfl dX9_from_41 ?_
            refine lv_iload_n hE.x hE.b dX9_from_44 rfl (lv_at hl 0 rfl) ?_
            refine lv_aload_n hE.x hE.b dX9_from_45 rfl (lv_at hl 1 rfl) ?_
            refine z_get (v := .ref (a 1)) hE hB inX9 0 rfl rfl 1 (by decide) q4_2 (fun _ h9 => h9) rfl dX9_from_46 ?_
            refine lv_sipush (v := (nI 454)) hE.x hE.b dX9_from_49 rfl ?_
            refine lv_iload_n hE.x hE.b dX9_from_52 rfl (lv_at hl 2 rfl) ?_
            refine z_imulN hE dX9_from_53 ?_
            refine lv_iload_n hE.x hE.b dX9_from_54 rfl (lv_at hl 0 rfl) ?_
            refine z_iaddN hE dX9_from_55 ?_
            refine z_iald (k := ((454 * i) + k)) (f := (A 1)) hE hB 2 rfl (by omega) (by decide) dX9_from_56 ?_
            refine z_iast (k := k) (f := f) (x := ((A 1) ((454 * i) + k))) (ws' := mW g o a F L (updA A 0 (upd f k ((A 1) ((454 * i) + k)))) ++ X) hE hB 1 rfl (by omega) (by decide) rfl dX9_from_57 (fun H locs hB => ?_)
            refine lv_iinc (v := (nI (k + 1))) (lv' := [(2, .int (nI (k + 1))), (0, .ref o), (1, .int (nI i))]) hE.x hE.b dX9_from_58 hl (k := 0) rfl (nI_add _ _) (by decide) rfl (fun ls hl => ?_)
            refine lv_goto (tgt := 33) hE.x hE.b dX9_from_61 (by decide) ?_
            exact ih33 (k + 1) (upd f k ((A 1) ((454 * i) + k))) _ _ _ (by omega) (by omega) (fun x => by simp only [upd]; rw [hf x]; (repeat' split) <;> first | rfl | omega | (congr 1; omega)) hB hl
      exact k33 (454 - 0 + 1) 0 (A 0) _ _ _ (Nat.lt_succ_self _) (by omega) (fun x => by rw [if_neg (by omega)]) hB hl
    · refine lv_aload_n hE.x hE.b dX9_from_26 rfl (lv_at hl 0 rfl) ?_
      refine z_qi hB (z_cV hE hB (c_X9_no l g o a F L A X) q4_146 kX9_no ⟨rfl, rfl⟩ ⟨Nat.le_of_ble_eq_true rfl, Nat.le_of_ble_eq_true rfl⟩ 0 rfl rfl rfl hl.1 rfl (Nat.le_of_ble_eq_true rfl) dX9_from_27 ⟨Nat.le_of_ble_eq_true rfl, Nat.le_of_ble_eq_true rfl⟩) (fun r_6 w_7 H locs hw hB => ?_)
      obtain ⟨hr9, hw9⟩ := hw
      have hr9 := hr9.symm
      subst hr9
      have hw9 := hw9.symm
      subst hw9
      exact z_iret (v := (-3)) (ws := mW g o a F L (bump 1 A) ++ X) hE hB hr (⟨by unfold fromR pIn; rw [c_3, if_pos rfl, rcl (show i < 2 ^ 31 by omega), if_pos c_4], by unfold fromA pIn; rw [c_3, if_pos rfl, rcl (show i < 2 ^ 31 by omega), if_pos c_4]⟩) dX9_from_30
  · refine lv_aload_n hE.x hE.b dX9_from_10 rfl (lv_at hl 0 rfl) ?_
    refine lv_bipush (v := (-2)) hE.x hE.b dX9_from_11 rfl ?_
    refine z_qi hB (z_cV hE hB (c_X9_bad l g o a F L A X (-2)) q4_91 kX9_bad ⟨rfl, rfl⟩ ⟨Nat.le_of_ble_eq_true rfl, Nat.le_of_ble_eq_true rfl⟩ 0 rfl rfl rfl hl.1 rfl (Nat.le_of_ble_eq_true rfl) dX9_from_13 ⟨Nat.le_of_ble_eq_true rfl, Nat.le_of_ble_eq_true rfl⟩) (fun r_8 w_9 H locs hw hB => ?_)
    obtain ⟨hr9, hw9⟩ := hw
    have hr9 := hr9.symm
    subst hr9
    have hw9 := hw9.symm
    subst hw9
    exact z_iret (v := (-2)) (ws := mW g o a F L (bump 0 A) ++ X) hE hB hr (⟨by unfold fromR pIn; rw [c_3]; rfl, by unfold fromA pIn; rw [c_3]; rfl⟩) dX9_from_16

set_option maxHeartbeats 4000000 in
set_option maxRecDepth 100000 in
theorem c_X9_status (l : Launch) (g : zG) (o : Nat) (a : Nat → Nat) (F : Nat → Int32) (L : Nat → Int64) (A : Nat → Nat → Int32) (X : va_W) (w : Int32)  : Met l yX9_status (Cond.code yX9_status cX9_status 2 (some .int) :: TBL) { frames := 1, cells := 0, slots := 0, locals := 25 } (zPc [.ref o, .int w] g (mW g o a F L A ++ X)) (zQi g (fun r ws => r = (statusR A w) ∧ ws = mW g o a F L (chk (pIn 0 2 w) A) ++ X)) 0 0 (zA (gz g)) := by
  refine z_start (by decide +kernel) rfl (Nat.le_of_ble_eq_true rfl) ?_
  intro p e s m args below meth c ls hE hr hnm hB hl
  have hl : lv_has ls 2 [(0, .ref o), (1, .int w)] := hl
  revert hB
  generalize s.heap = H
  generalize ([] : List Loc) = locs
  intro hB
  refine lv_iload_n hE.x hE.b dX9_status_0 rfl (lv_at hl 1 rfl) ?_
  refine lv_i2l hE.x hE.b dX9_status_1 rfl ?_
  refine lv_lconst (v := lN 0) hE.x hE.b dX9_status_2 rfl ?_
  refine lv_ldc2 (v := lN 2) hE.x hE.b hE.o (hE.t _ q4_206) dX9_status_3 ?_
  refine z_qi hB (z_cS hE hB (c_X9_in l g (Int32.toInt64 w) (lN 0) (lN 2) (Int32.toInt w) 0 2 (mW g o a F L A ++ X) (Int32.toInt_toInt64 _) (by decide) (by decide)) q4_88 kX9_in ⟨rfl, rfl⟩ ⟨Nat.le_of_ble_eq_true rfl, Nat.le_of_ble_eq_true rfl⟩ rfl hl.1 rfl (Nat.le_of_ble_eq_true rfl) dX9_status_6 ⟨Nat.le_of_ble_eq_true rfl, Nat.le_of_ble_eq_true rfl⟩) (fun r_1 w_2 H locs hw hB => ?_)
  obtain ⟨hr9, hw9⟩ := hw
  have hr9 := hr9.symm
  subst hr9
  have hw9 := hw9.symm
  subst hw9
  refine z_bf (b := (inZ 0 2 (Int32.toInt w))) (tgt := 21) hE dX9_status_9 (by decide) (fun c_3 => ?_) (fun c_3 => ?_)
  · refine lv_aload_n hE.x hE.b dX9_status_21 rfl (lv_at hl 0 rfl) ?_
    refine lv_iconst (v := (-1)) hE.x hE.b dX9_status_22 rfl ?_
    refine z_qi hB (z_cV hE hB (c_X9_bad l g o a F L A X (-1)) q4_91 kX9_bad ⟨rfl, rfl⟩ ⟨Nat.le_of_ble_eq_true rfl, Nat.le_of_ble_eq_true rfl⟩ 0 rfl rfl rfl hl.1 rfl (Nat.le_of_ble_eq_true rfl) dX9_status_23 ⟨Nat.le_of_ble_eq_true rfl, Nat.le_of_ble_eq_true rfl⟩) (fun r_4 w_5 H locs hw hB => ?_)
    obtain ⟨hr9, hw9⟩ := hw
    have hr9 := hr9.symm
    subst hr9
    have hw9 := hw9.symm
    subst hw9
    exact z_iret (v := (-1)) (ws := mW g o a F L (bump 0 A) ++ X) hE hB hr (⟨by unfold statusR pIn; rw [c_3]; rfl, by unfold chk pIn; rw [c_3]; rfl⟩) dX9_status_26
  · obtain ⟨i, hi, rfl⟩ := pIn_nI (hi := 2) c_3 (by omega)
    refine lv_aload_n hE.x hE.b dX9_status_12 rfl (lv_at hl 0 rfl) ?_
    refine z_get (v := .ref (a 3)) hE hB inX9 0 rfl rfl 3 (by decide) q4_4 (fun _ h9 => h9) rfl dX9_status_13 ?_
    refine lv_iload_n hE.x hE.b dX9_status_16 rfl (lv_at hl 1 rfl) ?_
    refine z_iald (k := i) (f := (A 3)) hE hB 4 rfl (by omega) (by decide) dX9_status_17 ?_
    refine lv_goto (tgt := 26) hE.x hE.b dX9_status_18 (by decide) ?_
    exact z_iret (v := ((A 3) i)) (ws := mW g o a F L A ++ X) hE hB hr (⟨by unfold statusR pIn; rw [c_3, if_pos rfl, rcl (show i < 2 ^ 31 by omega)], by unfold chk pIn; rw [c_3]; rfl⟩) dX9_status_26

set_option maxHeartbeats 4000000 in
set_option maxRecDepth 100000 in
theorem c_X9_roads (l : Launch) (g : zG) (o : Nat) (a : Nat → Nat) (F : Nat → Int32) (L : Nat → Int64) (A : Nat → Nat → Int32) (X : va_W) (T : Nat) (C : Nat) (V : Nat) (U : Nat) (hn : nOK (A 0) T C V U) : Met l yX9_roads (Cond.code yX9_roads cX9_roads 4 (some .int) :: TBL) { frames := 1, cells := 0, slots := 0, locals := 20 } (zPc [.ref o] g (mW g o a F L A ++ X)) (zQi g (fun r ws => r = nI (rcA (A 0) T T) ∧ ws = mW g o a F L A ++ X)) 0 0 (zA (gz g)) := by
  refine z_start (by decide +kernel) rfl (Nat.le_of_ble_eq_true rfl) ?_
  intro p e s m args below meth c ls hE hr hnm hB hl
  have hl : lv_has ls 4 [(0, .ref o)] := hl
  revert hB
  generalize s.heap = H
  generalize ([] : List Loc) = locs
  intro hB
  have hT := hn.T
  have hT6 := hn.T6
  have hC := hn.C
  have hC8 := hn.C8
  have hV := hn.V
  have hV8 := hn.V8
  have hU := hn.U
  have hU8 := hn.U8
  refine lv_iconst (v := nI 0) hE.x hE.b dX9_roads_0 rfl ?_
  refine lv_istore_n (lv' := [(1, .int (nI 0)), (0, .ref o)]) hE.x hE.b dX9_roads_1 rfl hl (by decide) rfl (fun ls hl => ?_)
  refine lv_iconst (v := nI 0) hE.x hE.b dX9_roads_2 rfl ?_
  refine lv_istore_n (lv' := [(2, .int (nI 0)), (1, .int (nI 0)), (0, .ref o)]) hE.x hE.b dX9_roads_3 rfl hl (by decide) rfl (fun ls hl => ?_)
  have k4 : ∀ (fu : Nat) (v : Nat) (x : Nat) (H : Heap) (locs : List Loc) (ls : Array Slot), T - x < fu → (x ≤ T) → (v = rcA (A 0) T x) → zB g s (mW g o a F L A ++ X) H locs → lv_has ls 4 [(2, .int (nI x)), (1, .int (nI v)), (0, .ref o)] → W p l e { frames := 1, cells := 0, slots := 0, locals := 20 } s m args below meth c H locs 0 0 (MQ below (zQi g (fun r ws => r = nI (rcA (A 0) T T) ∧ ws = mW g o a F L A ++ X)) args s 0 0 (zA (gz g))) (F0 m 4 ls []) := by
    intro fu
    induction fu with
    | zero => intro v x H locs ls hfu hx hv hB hl; exact absurd hfu (Nat.not_lt_zero _)
    | succ fu ih4 =>
      intro v x H locs ls hfu hx hv hB hl
      refine lv_iload_n hE.x hE.b dX9_roads_4 rfl (lv_at hl 0 rfl) ?_
      refine lv_aload_n hE.x hE.b dX9_roads_5 rfl (lv_at hl 2 rfl) ?_
      refine z_qi hB (z_cV hE hB (c_X9_towns l g o a F L A X T hT) q4_76 kX9_towns ⟨rfl, rfl⟩ ⟨Nat.le_of_ble_eq_true rfl, Nat.le_of_ble_eq_true rfl⟩ 0 rfl rfl rfl hl.1 rfl (Nat.le_of_ble_eq_true rfl) dX9_roads_6 ⟨Nat.le_of_ble_eq_true rfl, Nat.le_of_ble_eq_true rfl⟩) (fun r_1 w_2 H locs hw hB => ?_)
      obtain ⟨hr9, hw9⟩ := hw
      have hr9 := hr9.symm
      subst hr9
      have hw9 := hw9.symm
      subst hw9
      refine z_ge (tgt := 61) (X := ((x : Nat) : Int)) (Y := ((T : Nat) : Int)) hE dX9_roads_9 (by decide) (nI_toInt (n := x) (by omega)) (nI_toInt (n := T) (by omega)) (fun c_3 => ?_) (fun c_3 => ?_)
      · refine lv_iload_n hE.x hE.b dX9_roads_61 rfl (lv_at hl 1 rfl) ?_
        exact z_iret (v := (nI v)) (ws := mW g o a F L A ++ X) hE hB hr (⟨by rw [hv, show x = T by omega], rfl⟩) dX9_roads_62
      · refine lv_iload_n hE.x hE.b dX9_roads_12 rfl (lv_at hl 0 rfl) ?_
        refine lv_iconst (v := nI 1) hE.x hE.b dX9_roads_13 rfl ?_
        refine z_iaddN hE dX9_roads_14 ?_
        refine lv_istore_n (lv' := [(3, .int (nI (x + 1))), (2, .int (nI x)), (1, .int (nI v)), (0, .ref o)]) hE.x hE.b dX9_roads_15 rfl hl (by decide) rfl (fun ls hl => ?_)
        have k16 : ∀ (fu : Nat) (v : Nat) (k : Nat) (H : Heap) (locs : List Loc) (ls : Array Slot), T - k < fu → (k ≤ T - (x + 1)) → (v = rcA (A 0) T x + rcB (A 0) x k) → zB g s (mW g o a F L A ++ X) H locs → lv_has ls 4 [(3, .int (nI (x + 1 + k))), (2, .int (nI x)), (1, .int (nI v)), (0, .ref o)] → W p l e { frames := 1, cells := 0, slots := 0, locals := 20 } s m args below meth c H locs 0 0 (MQ below (zQi g (fun r ws => r = nI (rcA (A 0) T T) ∧ ws = mW g o a F L A ++ X)) args s 0 0 (zA (gz g))) (F0 m 16 ls []) := by
          intro fu
          induction fu with
          | zero => intro v k H locs ls hfu hk hv hB hl; exact absurd hfu (Nat.not_lt_zero _)
          | succ fu ih16 =>
            intro v k H locs ls hfu hk hv hB hl
            refine lv_iload_n hE.x hE.b dX9_roads_16 rfl (lv_at hl 0 rfl) ?_
            refine lv_aload_n hE.x hE.b dX9_roads_17 rfl (lv_at hl 3 rfl) ?_
            refine z_qi hB (z_cV hE hB (c_X9_towns l g o a F L A X T hT) q4_76 kX9_towns ⟨rfl, rfl⟩ ⟨Nat.le_of_ble_eq_true rfl, Nat.le_of_ble_eq_true rfl⟩ 0 rfl rfl rfl hl.1 rfl (Nat.le_of_ble_eq_true rfl) dX9_roads_18 ⟨Nat.le_of_ble_eq_true rfl, Nat.le_of_ble_eq_true rfl⟩) (fun r_4 w_5 H locs hw hB => ?_)
            obtain ⟨hr9, hw9⟩ := hw
            have hr9 := hr9.symm
            subst hr9
            have hw9 := hw9.symm
            subst hw9
            refine z_ge (tgt := 55) (X := (((x + 1 + k) : Nat) : Int)) (Y := ((T : Nat) : Int)) hE dX9_roads_21 (by decide) (nI_toInt (n := (x + 1 + k)) (by omega)) (nI_toInt (n := T) (by omega)) (fun c_6 => ?_) (fun c_6 => ?_)
            · refine lv_iinc (v := (nI (x + 1))) (lv' := [(2, .int (nI (x + 1))), (3, .int (nI (x + 1 + k))), (1, .int (nI v)), (0, .ref o)]) hE.x hE.b dX9_roads_55 hl (k := 1) rfl (nI_add _ _) (by decide) rfl (fun ls hl => ?_)
              refine lv_goto (tgt := 4) hE.x hE.b dX9_roads_58 (by decide) ?_
              exact ih4 v (x + 1) _ _ _ (by omega) (by omega) (by rw [hv, show k = T - (x + 1) by omega]; rfl) hB (lv_sub hl [0, 2, 3] rfl)
            · have hbd := rc_bd (n := A 0) (a := x) (k := k) hT6 (by omega) (by omega)
              have hw9 := rwE_9 hn (i := 6 * x + (x + 1 + k)) (by omega)
              refine lv_iload_n hE.x hE.b dX9_roads_24 rfl (lv_at hl 2 rfl) ?_
              refine lv_aload_n hE.x hE.b dX9_roads_25 rfl (lv_at hl 3 rfl) ?_
              refine z_get (v := .ref (a 0)) hE hB inX9 0 rfl rfl 0 (by decide) q4_1 (fun _ h9 => h9) rfl dX9_roads_26 ?_
              refine lv_bipush (v := (nI 10)) hE.x hE.b dX9_roads_29 rfl ?_
              refine lv_bipush (v := (nI 6)) hE.x hE.b dX9_roads_31 rfl ?_
              refine lv_iload_n hE.x hE.b dX9_roads_33 rfl (lv_at hl 1 rfl) ?_
              refine z_imulN hE dX9_roads_34 ?_
              refine z_iaddN hE dX9_roads_35 ?_
              refine lv_iload_n hE.x hE.b dX9_roads_36 rfl (lv_at hl 0 rfl) ?_
              refine z_iaddN hE dX9_roads_37 ?_
              refine z_iald (k := ((10 + (6 * x)) + (x + 1 + k))) (f := (A 0)) hE hB 1 rfl (by omega) (by decide) dX9_roads_38 ?_
              refine z_top (y := (nI (rwE (A 0) (6 * x + (x + 1 + k))))) (rwE_v hn (by omega) (by omega)) ?_
              refine z_le0 (tgt := 46) (X := (((rwE (A 0) (6 * x + (x + 1 + k))) : Nat) : Int)) hE dX9_roads_39 (by decide) (nI_toInt (n := (rwE (A 0) (6 * x + (x + 1 + k)))) (by omega)) (fun c_7 => ?_) (fun c_7 => ?_)
              · refine lv_iconst (v := nI 0) hE.x hE.b dX9_roads_46 rfl ?_
                refine z_iaddN hE dX9_roads_47 ?_
                refine lv_istore_n (lv' := [(1, .int (nI (v + 0))), (3, .int (nI (x + 1 + k))), (2, .int (nI x)), (0, .ref o)]) hE.x hE.b dX9_roads_48 rfl hl (by decide) rfl (fun ls hl => ?_)
                refine lv_iinc (v := (nI ((x + 1 + k) + 1))) (lv' := [(3, .int (nI ((x + 1 + k) + 1))), (1, .int (nI (v + 0))), (2, .int (nI x)), (0, .ref o)]) hE.x hE.b dX9_roads_49 hl (k := 1) rfl (nI_add _ _) (by decide) rfl (fun ls hl => ?_)
                refine lv_goto (tgt := 16) hE.x hE.b dX9_roads_52 (by decide) ?_
                exact ih16 (v + 0) (k + 1) _ _ _ (by omega) (by omega) (by rw [rcB_n (by omega), hv]; omega) hB (lv_sub hl [0, 2, 1, 3] rfl)
              · refine lv_iconst (v := nI 1) hE.x hE.b dX9_roads_42 rfl ?_
                refine lv_goto (tgt := 47) hE.x hE.b dX9_roads_43 (by decide) ?_
                refine z_iaddN hE dX9_roads_47 ?_
                refine lv_istore_n (lv' := [(1, .int (nI (v + 1))), (3, .int (nI (x + 1 + k))), (2, .int (nI x)), (0, .ref o)]) hE.x hE.b dX9_roads_48 rfl hl (by decide) rfl (fun ls hl => ?_)
                refine lv_iinc (v := (nI ((x + 1 + k) + 1))) (lv' := [(3, .int (nI ((x + 1 + k) + 1))), (1, .int (nI (v + 1))), (2, .int (nI x)), (0, .ref o)]) hE.x hE.b dX9_roads_49 hl (k := 1) rfl (nI_add _ _) (by decide) rfl (fun ls hl => ?_)
                refine lv_goto (tgt := 16) hE.x hE.b dX9_roads_52 (by decide) ?_
                exact ih16 (v + 1) (k + 1) _ _ _ (by omega) (by omega) (by rw [rcB_y (by omega), hv]; omega) hB (lv_sub hl [0, 2, 1, 3] rfl)
        exact k16 (T - 0 + 1) v 0 _ _ _ (Nat.lt_succ_self _) (by omega) hv hB hl
  exact k4 (T - 0 + 1) 0 0 _ _ _ (Nat.lt_succ_self _) (by omega) rfl hB hl

set_option maxHeartbeats 4000000 in
set_option maxRecDepth 100000 in
theorem c_X9_counted (l : Launch) (g : zG) (o : Nat) (a : Nat → Nat) (F : Nat → Int32) (L : Nat → Int64) (A : Nat → Nat → Int32) (X : va_W) (T : Nat) (C : Nat) (V : Nat) (U : Nat) (ln : Nat) (w : Nat) (hn : nOK (A 0) T C V U) (hln : F 16 = nI ln) (hl150 : ln ≤ 150) (hw : w ≤ 5) : Met l yX9_counted (Cond.code yX9_counted cX9_counted 2 (some .int) :: TBL) { frames := 2, cells := 0, slots := 0, locals := 43 } (zPc [.ref o, .int (nI w)] g (mW g o a F L A ++ X)) (zQi g (fun r ws => r = nI (cntN (A 0) T C V U ln w) ∧ ws = mW g o a F L A ++ X)) 0 0 (zA (gz g)) := by
  refine z_start (by decide +kernel) rfl (Nat.le_of_ble_eq_true rfl) ?_
  intro p e s m args below meth c ls hE hr hnm hB hl
  have hl : lv_has ls 2 [(0, .ref o), (1, .int (nI w))] := hl
  revert hB
  generalize s.heap = H
  generalize ([] : List Loc) = locs
  intro hB
  have hT := hn.T
  have hT6 := hn.T6
  have hC := hn.C
  have hC8 := hn.C8
  have hV := hn.V
  have hV8 := hn.V8
  have hU := hn.U
  have hU8 := hn.U8
  refine lv_iload_n hE.x hE.b dX9_counted_0 rfl (lv_at hl 1 rfl) ?_
  by_cases e_1 : (nI w) = nI 0
  · refine lv_tableIn (tgt := 36) hE.x hE.b dX9_counted_1 (by rw [e_1]; decide) (by rw [e_1]; decide) (by rw [e_1]; rfl) (by decide) ?_
    refine lv_aload_n hE.x hE.b dX9_counted_36 rfl (lv_at hl 0 rfl) ?_
    refine z_qi hB (z_cV hE hB (c_X9_towns l g o a F L A X T hT) q4_76 kX9_towns ⟨rfl, rfl⟩ ⟨Nat.le_of_ble_eq_true rfl, Nat.le_of_ble_eq_true rfl⟩ 0 rfl rfl rfl hl.1 rfl (Nat.le_of_ble_eq_true rfl) dX9_counted_37 ⟨Nat.le_of_ble_eq_true rfl, Nat.le_of_ble_eq_true rfl⟩) (fun r_2 w_3 H locs hw hB => ?_)
    obtain ⟨hr9, hw9⟩ := hw
    have hr9 := hr9.symm
    subst hr9
    have hw9 := hw9.symm
    subst hw9
    exact z_iret (v := (nI T)) (ws := mW g o a F L A ++ X) hE hB hr (⟨by unfold cntN; rw [if_pos (nI_inj e_1 (by omega) (by omega))], rfl⟩) dX9_counted_40
  by_cases e_4 : (nI w) = nI 1
  · refine lv_tableIn (tgt := 41) hE.x hE.b dX9_counted_1 (by rw [e_4]; decide) (by rw [e_4]; decide) (by rw [e_4]; rfl) (by decide) ?_
    refine lv_aload_n hE.x hE.b dX9_counted_41 rfl (lv_at hl 0 rfl) ?_
    refine z_qi hB (z_cV hE hB (c_X9_clauses l g o a F L A X C hC) q4_123 kX9_clauses ⟨rfl, rfl⟩ ⟨Nat.le_of_ble_eq_true rfl, Nat.le_of_ble_eq_true rfl⟩ 0 rfl rfl rfl hl.1 rfl (Nat.le_of_ble_eq_true rfl) dX9_counted_42 ⟨Nat.le_of_ble_eq_true rfl, Nat.le_of_ble_eq_true rfl⟩) (fun r_5 w_6 H locs hw hB => ?_)
    obtain ⟨hr9, hw9⟩ := hw
    have hr9 := hr9.symm
    subst hr9
    have hw9 := hw9.symm
    subst hw9
    exact z_iret (v := (nI C)) (ws := mW g o a F L A ++ X) hE hB hr (⟨by unfold cntN; rw [if_neg (fun z => e_1 (by rw [z])), if_pos (nI_inj e_4 (by omega) (by omega))], rfl⟩) dX9_counted_45
  by_cases e_7 : (nI w) = nI 2
  · refine lv_tableIn (tgt := 46) hE.x hE.b dX9_counted_1 (by rw [e_7]; decide) (by rw [e_7]; decide) (by rw [e_7]; rfl) (by decide) ?_
    refine lv_aload_n hE.x hE.b dX9_counted_46 rfl (lv_at hl 0 rfl) ?_
    refine z_qi hB (z_cV hE hB (c_X9_roads l g o a F L A X T C V U hn) q5_135 kX9_roads ⟨rfl, rfl⟩ ⟨Nat.le_of_ble_eq_true rfl, Nat.le_of_ble_eq_true rfl⟩ 0 rfl rfl rfl hl.1 rfl (Nat.le_of_ble_eq_true rfl) dX9_counted_47 ⟨Nat.le_of_ble_eq_true rfl, Nat.le_of_ble_eq_true rfl⟩) (fun r_8 w_9 H locs hw hB => ?_)
    obtain ⟨hr9, hw9⟩ := hw
    have hr9 := hr9.symm
    subst hr9
    have hw9 := hw9.symm
    subst hw9
    exact z_iret (v := (nI (rcA (A 0) T T))) (ws := mW g o a F L A ++ X) hE hB hr (⟨by unfold cntN; rw [if_neg (fun z => e_1 (by rw [z])), if_neg (fun z => e_4 (by rw [z])), if_pos (nI_inj e_7 (by omega) (by omega))], rfl⟩) dX9_counted_50
  by_cases e_10 : (nI w) = nI 3
  · refine lv_tableIn (tgt := 51) hE.x hE.b dX9_counted_1 (by rw [e_10]; decide) (by rw [e_10]; decide) (by rw [e_10]; rfl) (by decide) ?_
    refine lv_aload_n hE.x hE.b dX9_counted_51 rfl (lv_at hl 0 rfl) ?_
    refine z_get (v := .ref (a 0)) hE hB inX9 0 rfl rfl 0 (by decide) q4_1 (fun _ h9 => h9) rfl dX9_counted_52 ?_
    refine lv_iconst (v := nI 2) hE.x hE.b dX9_counted_55 rfl ?_
    refine z_iald (k := 2) (f := (A 0)) hE hB 1 rfl (by omega) (by decide) dX9_counted_56 ?_
    refine z_top (y := (nI V)) hV ?_
    exact z_iret (v := (nI V)) (ws := mW g o a F L A ++ X) hE hB hr (⟨by unfold cntN; rw [if_neg (fun z => e_1 (by rw [z])), if_neg (fun z => e_4 (by rw [z])), if_neg (fun z => e_7 (by rw [z])), if_pos (nI_inj e_10 (by omega) (by omega))], rfl⟩) dX9_counted_57
  by_cases e_11 : (nI w) = nI 4
  · refine lv_tableIn (tgt := 58) hE.x hE.b dX9_counted_1 (by rw [e_11]; decide) (by rw [e_11]; decide) (by rw [e_11]; rfl) (by decide) ?_
    refine lv_aload_n hE.x hE.b dX9_counted_58 rfl (lv_at hl 0 rfl) ?_
    refine z_get (v := .ref (a 0)) hE hB inX9 0 rfl rfl 0 (by decide) q4_1 (fun _ h9 => h9) rfl dX9_counted_59 ?_
    refine lv_iconst (v := nI 3) hE.x hE.b dX9_counted_62 rfl ?_
    refine z_iald (k := 3) (f := (A 0)) hE hB 1 rfl (by omega) (by decide) dX9_counted_63 ?_
    refine z_top (y := (nI U)) hU ?_
    exact z_iret (v := (nI U)) (ws := mW g o a F L A ++ X) hE hB hr (⟨by unfold cntN; rw [if_neg (fun z => e_1 (by rw [z])), if_neg (fun z => e_4 (by rw [z])), if_neg (fun z => e_7 (by rw [z])), if_neg (fun z => e_10 (by rw [z])), if_pos (nI_inj e_11 (by omega) (by omega))], rfl⟩) dX9_counted_64
  refine lv_tableOut (tgt := 65) hE.x hE.b dX9_counted_1 (by have g0 := ne_toInt e_1 (by decide); have g1 := ne_toInt e_4 (by decide); have g2 := ne_toInt e_7 (by decide); have g3 := ne_toInt e_10 (by decide); have g4 := ne_toInt e_11 (by decide); omega) (by decide) ?_
  refine lv_aload_n hE.x hE.b dX9_counted_65 rfl (lv_at hl 0 rfl) ?_
  refine z_get (v := .int (F 16)) hE hB inX9 0 rfl rfl 16 (by decide) q4_17 (fun _ h9 => h9) rfl dX9_counted_66 ?_
  refine z_top (y := (nI ln)) hln ?_
  exact z_iret (v := (nI ln)) (ws := mW g o a F L A ++ X) hE hB hr (⟨by unfold cntN; rw [if_neg (fun z => e_1 (by rw [z])), if_neg (fun z => e_4 (by rw [z])), if_neg (fun z => e_7 (by rw [z])), if_neg (fun z => e_10 (by rw [z])), if_neg (fun z => e_11 (by rw [z]))], rfl⟩) dX9_counted_69

set_option maxHeartbeats 4000000 in
set_option maxRecDepth 100000 in
theorem c_X9_count (l : Launch) (g : zG) (o : Nat) (a : Nat → Nat) (F : Nat → Int32) (L : Nat → Int64) (A : Nat → Nat → Int32) (X : va_W) (T : Nat) (C : Nat) (V : Nat) (U : Nat) (ln : Nat) (w : Int32) (hn : nOK (A 0) T C V U) (hln : F 16 = nI ln) (hl150 : ln ≤ 150) : Met l yX9_count (Cond.code yX9_count cX9_count 2 (some .int) :: TBL) { frames := 3, cells := 0, slots := 0, locals := 64 } (zPc [.ref o, .int w] g (mW g o a F L A ++ X)) (zQi g (fun r ws => r = (countR (A 0) T C V U ln w) ∧ ws = mW g o a F L (chk (pIn 0 5 w) A) ++ X)) 0 0 (zA (gz g)) := by
  refine z_start (by decide +kernel) rfl (Nat.le_of_ble_eq_true rfl) ?_
  intro p e s m args below meth c ls hE hr hnm hB hl
  have hl : lv_has ls 2 [(0, .ref o), (1, .int w)] := hl
  revert hB
  generalize s.heap = H
  generalize ([] : List Loc) = locs
  intro hB
  have hT := hn.T
  have hT6 := hn.T6
  have hC := hn.C
  have hC8 := hn.C8
  have hV := hn.V
  have hV8 := hn.V8
  have hU := hn.U
  have hU8 := hn.U8
  refine lv_iload_n hE.x hE.b dX9_count_0 rfl (lv_at hl 1 rfl) ?_
  refine lv_i2l hE.x hE.b dX9_count_1 rfl ?_
  refine lv_lconst (v := lN 0) hE.x hE.b dX9_count_2 rfl ?_
  refine lv_ldc2 (v := lN 5) hE.x hE.b hE.o (hE.t _ q4_118) dX9_count_3 ?_
  refine z_qi hB (z_cS hE hB (c_X9_in l g (Int32.toInt64 w) (lN 0) (lN 5) (Int32.toInt w) 0 5 (mW g o a F L A ++ X) (Int32.toInt_toInt64 _) (by decide) (by decide)) q4_88 kX9_in ⟨rfl, rfl⟩ ⟨Nat.le_of_ble_eq_true rfl, Nat.le_of_ble_eq_true rfl⟩ rfl hl.1 rfl (Nat.le_of_ble_eq_true rfl) dX9_count_6 ⟨Nat.le_of_ble_eq_true rfl, Nat.le_of_ble_eq_true rfl⟩) (fun r_1 w_2 H locs hw hB => ?_)
  obtain ⟨hr9, hw9⟩ := hw
  have hr9 := hr9.symm
  subst hr9
  have hw9 := hw9.symm
  subst hw9
  refine z_bf (b := (inZ 0 5 (Int32.toInt w))) (tgt := 20) hE dX9_count_9 (by decide) (fun c_3 => ?_) (fun c_3 => ?_)
  · refine lv_aload_n hE.x hE.b dX9_count_20 rfl (lv_at hl 0 rfl) ?_
    refine lv_bipush (v := (-2)) hE.x hE.b dX9_count_21 rfl ?_
    refine z_qi hB (z_cV hE hB (c_X9_bad l g o a F L A X (-2)) q4_91 kX9_bad ⟨rfl, rfl⟩ ⟨Nat.le_of_ble_eq_true rfl, Nat.le_of_ble_eq_true rfl⟩ 0 rfl rfl rfl hl.1 rfl (Nat.le_of_ble_eq_true rfl) dX9_count_23 ⟨Nat.le_of_ble_eq_true rfl, Nat.le_of_ble_eq_true rfl⟩) (fun r_4 w_5 H locs hw hB => ?_)
    obtain ⟨hr9, hw9⟩ := hw
    have hr9 := hr9.symm
    subst hr9
    have hw9 := hw9.symm
    subst hw9
    exact z_iret (v := (-2)) (ws := mW g o a F L (bump 0 A) ++ X) hE hB hr (⟨by unfold countR pIn; rw [c_3]; rfl, by unfold chk pIn; rw [c_3]; rfl⟩) dX9_count_26
  · obtain ⟨i, hi, rfl⟩ := pIn_nI (hi := 5) c_3 (by omega)
    refine lv_aload_n hE.x hE.b dX9_count_12 rfl (lv_at hl 0 rfl) ?_
    refine lv_iload_n hE.x hE.b dX9_count_13 rfl (lv_at hl 1 rfl) ?_
    refine z_qi hB (z_cV hE hB (c_X9_counted l g o a F L A X T C V U ln i hn hln (by omega) (by omega)) q5_131 kX9_counted ⟨rfl, rfl⟩ ⟨Nat.le_of_ble_eq_true rfl, Nat.le_of_ble_eq_true rfl⟩ 0 rfl rfl rfl hl.1 rfl (Nat.le_of_ble_eq_true rfl) dX9_count_14 ⟨Nat.le_of_ble_eq_true rfl, Nat.le_of_ble_eq_true rfl⟩) (fun r_6 w_7 H locs hw hB => ?_)
    obtain ⟨hr9, hw9⟩ := hw
    have hr9 := hr9.symm
    subst hr9
    have hw9 := hw9.symm
    subst hw9
    refine lv_goto (tgt := 26) hE.x hE.b dX9_count_17 (by decide) ?_
    exact z_iret (v := (nI (cntN (A 0) T C V U ln i))) (ws := mW g o a F L A ++ X) hE hB hr (⟨by unfold countR pIn; rw [c_3, if_pos rfl, rcl (show i < 2 ^ 31 by omega)], by unfold chk pIn; rw [c_3]; rfl⟩) dX9_count_26

set_option maxHeartbeats 4000000 in
set_option maxRecDepth 100000 in
theorem c_X9_sums (l : Launch) (g : zG) (o : Nat) (a : Nat → Nat) (F : Nat → Int32) (L : Nat → Int64) (A : Nat → Nat → Int32) (X : va_W) (h9 : Int64) (f : Nat) (q : Nat) (hfq : f + q ≤ 454) : Met l yX9_sums (Cond.code yX9_sums cX9_sums 8 (some .long) :: TBL) { frames := 0, cells := 0, slots := 0, locals := 0 } (zPc [.ref o, .long h9, .int (nI f), .int (nI q)] g (mW g o a F L A ++ X)) (zQl g (fun r ws => r = (smL (A 0) h9 f q) ∧ ws = mW g o a F L A ++ X)) 0 0 (zA (gz g)) := by
  refine z_start (by decide +kernel) rfl (Nat.le_of_ble_eq_true rfl) ?_
  intro p e s m args below meth c ls hE hr hnm hB hl
  have hl : lv_has ls 8 [(0, .ref o), (1, .long h9), (3, .int (nI f)), (4, .int (nI q))] := hl
  revert hB
  generalize s.heap = H
  generalize ([] : List Loc) = locs
  intro hB
  refine lv_lload_n hE.x hE.b dX9_sums_0 rfl (lv_at hl 1 rfl) ?_
  refine lv_lstore (lv' := [(5, .long h9), (0, .ref o), (1, .long h9), (3, .int (nI f)), (4, .int (nI q))]) hE.x hE.b dX9_sums_1 hl (by decide) rfl (fun ls hl => ?_)
  refine lv_iconst (v := nI 0) hE.x hE.b dX9_sums_3 rfl ?_
  refine lv_istore (lv' := [(7, .int (nI 0)), (5, .long h9), (0, .ref o), (1, .long h9), (3, .int (nI f)), (4, .int (nI q))]) hE.x hE.b dX9_sums_4 hl (by decide) rfl (fun ls hl => ?_)
  have k6 : ∀ (fu : Nat) (hh : Int64) (k : Nat) (H : Heap) (locs : List Loc) (ls : Array Slot), q - k < fu → (k ≤ q) → (hh = smL (A 0) h9 f k) → zB g s (mW g o a F L A ++ X) H locs → lv_has ls 8 [(7, .int (nI k)), (5, .long hh), (0, .ref o), (1, .long h9), (3, .int (nI f)), (4, .int (nI q))] → W p l e { frames := 0, cells := 0, slots := 0, locals := 0 } s m args below meth c H locs 0 0 (MQ below (zQl g (fun r ws => r = (smL (A 0) h9 f q) ∧ ws = mW g o a F L A ++ X)) args s 0 0 (zA (gz g))) (F0 m 6 ls []) := by
    intro fu
    induction fu with
    | zero => intro hh k H locs ls hfu hk hhh hB hl; exact absurd hfu (Nat.not_lt_zero _)
    | succ fu ih6 =>
      intro hh k H locs ls hfu hk hhh hB hl
      refine lv_iload hE.x hE.b dX9_sums_6 (lv_at hl 0 rfl) ?_
      refine lv_iload hE.x hE.b dX9_sums_8 (lv_at hl 5 rfl) ?_
      refine z_ge (tgt := 38) (X := ((k : Nat) : Int)) (Y := ((q : Nat) : Int)) hE dX9_sums_10 (by decide) (nI_toInt (n := k) (by omega)) (nI_toInt (n := q) (by omega)) (fun c_1 => ?_) (fun c_1 => ?_)
      · refine lv_lload hE.x hE.b dX9_sums_38 (lv_at hl 1 rfl) ?_
        exact z_lret (v := hh) (ws := mW g o a F L A ++ X) hE hB hr (⟨by rw [hhh, show k = q by omega], rfl⟩) dX9_sums_40
      · refine lv_ldc2 (v := lN 31) hE.x hE.b hE.o (hE.t _ q5_144) dX9_sums_13 ?_
        refine lv_lload hE.x hE.b dX9_sums_16 (lv_at hl 1 rfl) ?_
        refine lv_lmul hE.x hE.b dX9_sums_18 ?_
        refine lv_aload_n hE.x hE.b dX9_sums_19 rfl (lv_at hl 2 rfl) ?_
        refine z_get (v := .ref (a 0)) hE hB inX9 0 rfl rfl 0 (by decide) q4_1 (fun _ h9 => h9) rfl dX9_sums_20 ?_
        refine lv_iload_n hE.x hE.b dX9_sums_23 rfl (lv_at hl 4 rfl) ?_
        refine lv_iload hE.x hE.b dX9_sums_24 (lv_at hl 0 rfl) ?_
        refine z_iaddN hE dX9_sums_26 ?_
        refine z_iald (k := (f + k)) (f := (A 0)) hE hB 1 rfl (by omega) (by decide) dX9_sums_27 ?_
        refine lv_i2l hE.x hE.b dX9_sums_28 rfl ?_
        refine lv_ladd hE.x hE.b dX9_sums_29 ?_
        refine lv_lstore (lv' := [(5, .long (((lN 31) * hh) + (Int32.toInt64 ((A 0) (f + k))))), (7, .int (nI k)), (0, .ref o), (1, .long h9), (3, .int (nI f)), (4, .int (nI q))]) hE.x hE.b dX9_sums_30 hl (by decide) rfl (fun ls hl => ?_)
        refine lv_iinc (v := (nI (k + 1))) (lv' := [(7, .int (nI (k + 1))), (5, .long (((lN 31) * hh) + (Int32.toInt64 ((A 0) (f + k))))), (0, .ref o), (1, .long h9), (3, .int (nI f)), (4, .int (nI q))]) hE.x hE.b dX9_sums_32 hl (k := 1) rfl (nI_add _ _) (by decide) rfl (fun ls hl => ?_)
        refine lv_goto (tgt := 6) hE.x hE.b dX9_sums_35 (by decide) ?_
        exact ih6 (((lN 31) * hh) + (Int32.toInt64 ((A 0) (f + k)))) (k + 1) _ _ _ (by omega) (by omega) (by rw [hhh]; rfl) hB hl
  exact k6 (q - 0 + 1) h9 0 _ _ _ (Nat.lt_succ_self _) (by omega) rfl hB hl

set_option maxHeartbeats 4000000 in
set_option maxRecDepth 100000 in
theorem c_X9_digest (l : Launch) (g : zG) (o : Nat) (a : Nat → Nat) (F : Nat → Int32) (L : Nat → Int64) (A : Nat → Nat → Int32) (X : va_W) (T : Nat) (C : Nat) (V : Nat) (U : Nat) (ln : Nat) (hn : nOK (A 0) T C V U) (hln : F 16 = nI ln) (hl150 : ln ≤ 150) : Met l yX9_digest (Cond.code yX9_digest cX9_digest 5 (some .long) :: TBL) { frames := 3, cells := 0, slots := 0, locals := 64 } (zPc [.ref o] g (mW g o a F L A ++ X)) (zQl g (fun r ws => r = (digestR (A 0) L T C V U ln) ∧ ws = mW g o a F L A ++ X)) 0 0 (zA (gz g)) := by
  refine z_start (by decide +kernel) rfl (Nat.le_of_ble_eq_true rfl) ?_
  intro p e s m args below meth c ls hE hr hnm hB hl
  have hl : lv_has ls 5 [(0, .ref o)] := hl
  revert hB
  generalize s.heap = H
  generalize ([] : List Loc) = locs
  intro hB
  have hT := hn.T
  have hT6 := hn.T6
  have hC := hn.C
  have hC8 := hn.C8
  have hV := hn.V
  have hV8 := hn.V8
  have hU := hn.U
  have hU8 := hn.U8
  refine lv_ldc2 (v := lN 947) hE.x hE.b hE.o (hE.t _ q5_143) dX9_digest_0 ?_
  refine lv_lstore_n (lv' := [(1, .long (lN 947)), (0, .ref o)]) hE.x hE.b dX9_digest_3 rfl hl (by decide) rfl (fun ls hl => ?_)
  refine lv_iconst (v := nI 0) hE.x hE.b dX9_digest_4 rfl ?_
  refine lv_istore_n (lv' := [(3, .int (nI 0)), (1, .long (lN 947)), (0, .ref o)]) hE.x hE.b dX9_digest_5 rfl hl (by decide) rfl (fun ls hl => ?_)
  have k6 : ∀ (fu : Nat) (hh : Int64) (k : Nat) (H : Heap) (locs : List Loc) (ls : Array Slot), 6 - k < fu → (k ≤ 6) → (hh = dgC (cntN (A 0) T C V U ln) (lN 947) k) → zB g s (mW g o a F L A ++ X) H locs → lv_has ls 5 [(3, .int (nI k)), (1, .long hh), (0, .ref o)] → W p l e { frames := 3, cells := 0, slots := 0, locals := 64 } s m args below meth c H locs 0 0 (MQ below (zQl g (fun r ws => r = (digestR (A 0) L T C V U ln) ∧ ws = mW g o a F L A ++ X)) args s 0 0 (zA (gz g))) (F0 m 6 ls []) := by
    intro fu
    induction fu with
    | zero => intro hh k H locs ls hfu hk hhh hB hl; exact absurd hfu (Nat.not_lt_zero _)
    | succ fu ih6 =>
      intro hh k H locs ls hfu hk hhh hB hl
      refine lv_iload_n hE.x hE.b dX9_digest_6 rfl (lv_at hl 0 rfl) ?_
      refine lv_bipush (v := (nI 6)) hE.x hE.b dX9_digest_7 rfl ?_
      refine z_ge (tgt := 31) (X := ((k : Nat) : Int)) (Y := (6 : Int)) hE dX9_digest_9 (by decide) (nI_toInt (n := k) (by omega)) rfl (fun c_1 => ?_) (fun c_1 => ?_)
      · refine lv_aload_n hE.x hE.b dX9_digest_31 rfl (lv_at hl 2 rfl) ?_
        refine lv_lload_n hE.x hE.b dX9_digest_32 rfl (lv_at hl 1 rfl) ?_
        refine lv_iconst (v := nI 4) hE.x hE.b dX9_digest_33 rfl ?_
        refine lv_aload_n hE.x hE.b dX9_digest_34 rfl (lv_at hl 2 rfl) ?_
        refine z_qi hB (z_cV hE hB (c_X9_towns l g o a F L A X T hT) q4_76 kX9_towns ⟨rfl, rfl⟩ ⟨Nat.le_of_ble_eq_true rfl, Nat.le_of_ble_eq_true rfl⟩ 0 rfl rfl rfl hl.1 rfl (Nat.le_of_ble_eq_true rfl) dX9_digest_35 ⟨Nat.le_of_ble_eq_true rfl, Nat.le_of_ble_eq_true rfl⟩) (fun r_2 w_3 H locs hw hB => ?_)
        obtain ⟨hr9, hw9⟩ := hw
        have hr9 := hr9.symm
        subst hr9
        have hw9 := hw9.symm
        subst hw9
        refine z_ql hB (z_cV hE hB (c_X9_sums l g o a F L A X hh 4 T (by omega)) q5_145 kX9_sums ⟨rfl, rfl⟩ ⟨Nat.le_of_ble_eq_true rfl, Nat.le_of_ble_eq_true rfl⟩ 0 rfl rfl rfl hl.1 rfl (Nat.le_of_ble_eq_true rfl) dX9_digest_38 ⟨Nat.le_of_ble_eq_true rfl, Nat.le_of_ble_eq_true rfl⟩) (fun r_4 w_5 H locs hw hB => ?_)
        obtain ⟨hr9, hw9⟩ := hw
        have hr9 := hr9.symm
        subst hr9
        have hw9 := hw9.symm
        subst hw9
        refine lv_lstore_n (lv' := [(1, .long (smL (A 0) hh 4 T)), (3, .int (nI k)), (0, .ref o)]) hE.x hE.b dX9_digest_41 rfl hl (by decide) rfl (fun ls hl => ?_)
        refine lv_iconst (v := nI 0) hE.x hE.b dX9_digest_42 rfl ?_
        refine lv_istore_n (lv' := [(3, .int (nI 0)), (1, .long (smL (A 0) hh 4 T)), (0, .ref o)]) hE.x hE.b dX9_digest_43 rfl hl (by decide) rfl (fun ls hl => ?_)
        have k44 : ∀ (fu : Nat) (hh : Int64) (x : Nat) (H : Heap) (locs : List Loc) (ls : Array Slot), T - x < fu → (x ≤ T) → (hh = dgA (A 0) T (dg1 (A 0) T C V U ln) x) → zB g s (mW g o a F L A ++ X) H locs → lv_has ls 5 [(3, .int (nI x)), (1, .long hh), (0, .ref o)] → W p l e { frames := 3, cells := 0, slots := 0, locals := 64 } s m args below meth c H locs 0 0 (MQ below (zQl g (fun r ws => r = (digestR (A 0) L T C V U ln) ∧ ws = mW g o a F L A ++ X)) args s 0 0 (zA (gz g))) (F0 m 44 ls []) := by
          intro fu
          induction fu with
          | zero => intro hh x H locs ls hfu hx hhh hB hl; exact absurd hfu (Nat.not_lt_zero _)
          | succ fu ih44 =>
            intro hh x H locs ls hfu hx hhh hB hl
            refine lv_iload_n hE.x hE.b dX9_digest_44 rfl (lv_at hl 0 rfl) ?_
            refine lv_aload_n hE.x hE.b dX9_digest_45 rfl (lv_at hl 2 rfl) ?_
            refine z_qi hB (z_cV hE hB (c_X9_towns l g o a F L A X T hT) q4_76 kX9_towns ⟨rfl, rfl⟩ ⟨Nat.le_of_ble_eq_true rfl, Nat.le_of_ble_eq_true rfl⟩ 0 rfl rfl rfl hl.1 rfl (Nat.le_of_ble_eq_true rfl) dX9_digest_46 ⟨Nat.le_of_ble_eq_true rfl, Nat.le_of_ble_eq_true rfl⟩) (fun r_6 w_7 H locs hw hB => ?_)
            obtain ⟨hr9, hw9⟩ := hw
            have hr9 := hr9.symm
            subst hr9
            have hw9 := hw9.symm
            subst hw9
            refine z_ge (tgt := 101) (X := ((x : Nat) : Int)) (Y := ((T : Nat) : Int)) hE dX9_digest_49 (by decide) (nI_toInt (n := x) (by omega)) (nI_toInt (n := T) (by omega)) (fun c_8 => ?_) (fun c_8 => ?_)
            · refine lv_aload_n hE.x hE.b dX9_digest_101 rfl (lv_at hl 2 rfl) ?_
              refine lv_lload_n hE.x hE.b dX9_digest_102 rfl (lv_at hl 1 rfl) ?_
              refine lv_bipush (v := (nI 46)) hE.x hE.b dX9_digest_103 rfl ?_
              refine lv_iconst (v := nI 5) hE.x hE.b dX9_digest_105 rfl ?_
              refine lv_aload_n hE.x hE.b dX9_digest_106 rfl (lv_at hl 2 rfl) ?_
              refine z_qi hB (z_cV hE hB (c_X9_clauses l g o a F L A X C hC) q4_123 kX9_clauses ⟨rfl, rfl⟩ ⟨Nat.le_of_ble_eq_true rfl, Nat.le_of_ble_eq_true rfl⟩ 0 rfl rfl rfl hl.1 rfl (Nat.le_of_ble_eq_true rfl) dX9_digest_107 ⟨Nat.le_of_ble_eq_true rfl, Nat.le_of_ble_eq_true rfl⟩) (fun r_9 w_10 H locs hw hB => ?_)
              obtain ⟨hr9, hw9⟩ := hw
              have hr9 := hr9.symm
              subst hr9
              have hw9 := hw9.symm
              subst hw9
              refine z_imulN hE dX9_digest_110 ?_
              refine z_ql hB (z_cV hE hB (c_X9_sums l g o a F L A X hh 46 (5 * C) (by omega)) q5_145 kX9_sums ⟨rfl, rfl⟩ ⟨Nat.le_of_ble_eq_true rfl, Nat.le_of_ble_eq_true rfl⟩ 0 rfl rfl rfl hl.1 rfl (Nat.le_of_ble_eq_true rfl) dX9_digest_111 ⟨Nat.le_of_ble_eq_true rfl, Nat.le_of_ble_eq_true rfl⟩) (fun r_11 w_12 H locs hw hB => ?_)
              obtain ⟨hr9, hw9⟩ := hw
              have hr9 := hr9.symm
              subst hr9
              have hw9 := hw9.symm
              subst hw9
              refine lv_lstore_n (lv' := [(1, .long (smL (A 0) hh 46 (5 * C))), (3, .int (nI x)), (0, .ref o)]) hE.x hE.b dX9_digest_114 rfl hl (by decide) rfl (fun ls hl => ?_)
              refine lv_aload_n hE.x hE.b dX9_digest_115 rfl (lv_at hl 2 rfl) ?_
              refine lv_lload_n hE.x hE.b dX9_digest_116 rfl (lv_at hl 0 rfl) ?_
              refine lv_bipush (v := (nI 86)) hE.x hE.b dX9_digest_117 rfl ?_
              refine lv_iconst (v := nI 5) hE.x hE.b dX9_digest_119 rfl ?_
              refine lv_aload_n hE.x hE.b dX9_digest_120 rfl (lv_at hl 2 rfl) ?_
              refine z_get (v := .ref (a 0)) hE hB inX9 0 rfl rfl 0 (by decide) q4_1 (fun _ h9 => h9) rfl dX9_digest_121 ?_
              refine lv_iconst (v := nI 2) hE.x hE.b dX9_digest_124 rfl ?_
              refine z_iald (k := 2) (f := (A 0)) hE hB 1 rfl (by omega) (by decide) dX9_digest_125 ?_
              refine z_top (y := (nI V)) hV ?_
              refine z_imulN hE dX9_digest_126 ?_
              refine z_ql hB (z_cV hE hB (c_X9_sums l g o a F L A X (smL (A 0) hh 46 (5 * C)) 86 (5 * V) (by omega)) q5_145 kX9_sums ⟨rfl, rfl⟩ ⟨Nat.le_of_ble_eq_true rfl, Nat.le_of_ble_eq_true rfl⟩ 0 rfl rfl rfl hl.1 rfl (Nat.le_of_ble_eq_true rfl) dX9_digest_127 ⟨Nat.le_of_ble_eq_true rfl, Nat.le_of_ble_eq_true rfl⟩) (fun r_13 w_14 H locs hw hB => ?_)
              obtain ⟨hr9, hw9⟩ := hw
              have hr9 := hr9.symm
              subst hr9
              have hw9 := hw9.symm
              subst hw9
              refine lv_lstore_n (lv' := [(1, .long (smL (A 0) (smL (A 0) hh 46 (5 * C)) 86 (5 * V))), (3, .int (nI x)), (0, .ref o)]) hE.x hE.b dX9_digest_130 rfl hl (by decide) rfl (fun ls hl => ?_)
              refine lv_ldc2 (v := lN 31) hE.x hE.b hE.o (hE.t _ q5_144) dX9_digest_131 ?_
              refine lv_ldc2 (v := lN 31) hE.x hE.b hE.o (hE.t _ q5_144) dX9_digest_134 ?_
              refine lv_lload_n hE.x hE.b dX9_digest_137 rfl (lv_at hl 0 rfl) ?_
              refine lv_lmul hE.x hE.b dX9_digest_138 ?_
              refine lv_aload_n hE.x hE.b dX9_digest_139 rfl (lv_at hl 2 rfl) ?_
              refine z_get (v := .long (L 4)) hE hB inX9 0 rfl rfl 4 (by decide) q4_5 (fun _ h9 => h9) rfl dX9_digest_140 ?_
              refine lv_ladd hE.x hE.b dX9_digest_143 ?_
              refine lv_lmul hE.x hE.b dX9_digest_144 ?_
              refine lv_aload_n hE.x hE.b dX9_digest_145 rfl (lv_at hl 2 rfl) ?_
              refine z_get (v := .long (L 5)) hE hB inX9 0 rfl rfl 5 (by decide) q4_6 (fun _ h9 => h9) rfl dX9_digest_146 ?_
              refine lv_ladd hE.x hE.b dX9_digest_149 ?_
              exact z_lret (v := (((lN 31) * (((lN 31) * (smL (A 0) (smL (A 0) hh 46 (5 * C)) 86 (5 * V))) + (L 4))) + (L 5))) (ws := mW g o a F L A ++ X) hE hB hr (⟨by rw [hhh, show x = T by omega]; rfl, rfl⟩) dX9_digest_150
            · refine lv_iload_n hE.x hE.b dX9_digest_52 rfl (lv_at hl 0 rfl) ?_
              refine lv_iconst (v := nI 1) hE.x hE.b dX9_digest_53 rfl ?_
              refine z_iaddN hE dX9_digest_54 ?_
              refine lv_istore (lv' := [(4, .int (nI (x + 1))), (3, .int (nI x)), (1, .long hh), (0, .ref o)]) hE.x hE.b dX9_digest_55 hl (by decide) rfl (fun ls hl => ?_)
              have k57 : ∀ (fu : Nat) (hh : Int64) (k : Nat) (H : Heap) (locs : List Loc) (ls : Array Slot), T - k < fu → (k ≤ T - (x + 1)) → (hh = dgB (A 0) (dgA (A 0) T (dg1 (A 0) T C V U ln) x) x k) → zB g s (mW g o a F L A ++ X) H locs → lv_has ls 5 [(4, .int (nI (x + 1 + k))), (3, .int (nI x)), (1, .long hh), (0, .ref o)] → W p l e { frames := 3, cells := 0, slots := 0, locals := 64 } s m args below meth c H locs 0 0 (MQ below (zQl g (fun r ws => r = (digestR (A 0) L T C V U ln) ∧ ws = mW g o a F L A ++ X)) args s 0 0 (zA (gz g))) (F0 m 57 ls []) := by
                intro fu
                induction fu with
                | zero => intro hh k H locs ls hfu hk hhh hB hl; exact absurd hfu (Nat.not_lt_zero _)
                | succ fu ih57 =>
                  intro hh k H locs ls hfu hk hhh hB hl
                  refine lv_iload hE.x hE.b dX9_digest_57 (lv_at hl 0 rfl) ?_
                  refine lv_aload_n hE.x hE.b dX9_digest_59 rfl (lv_at hl 3 rfl) ?_
                  refine z_qi hB (z_cV hE hB (c_X9_towns l g o a F L A X T hT) q4_76 kX9_towns ⟨rfl, rfl⟩ ⟨Nat.le_of_ble_eq_true rfl, Nat.le_of_ble_eq_true rfl⟩ 0 rfl rfl rfl hl.1 rfl (Nat.le_of_ble_eq_true rfl) dX9_digest_60 ⟨Nat.le_of_ble_eq_true rfl, Nat.le_of_ble_eq_true rfl⟩) (fun r_15 w_16 H locs hw hB => ?_)
                  obtain ⟨hr9, hw9⟩ := hw
                  have hr9 := hr9.symm
                  subst hr9
                  have hw9 := hw9.symm
                  subst hw9
                  refine z_ge (tgt := 95) (X := (((x + 1 + k) : Nat) : Int)) (Y := ((T : Nat) : Int)) hE dX9_digest_63 (by decide) (nI_toInt (n := (x + 1 + k)) (by omega)) (nI_toInt (n := T) (by omega)) (fun c_17 => ?_) (fun c_17 => ?_)
                  · refine lv_iinc (v := (nI (x + 1))) (lv' := [(3, .int (nI (x + 1))), (4, .int (nI (x + 1 + k))), (1, .long hh), (0, .ref o)]) hE.x hE.b dX9_digest_95 hl (k := 1) rfl (nI_add _ _) (by decide) rfl (fun ls hl => ?_)
                    refine lv_goto (tgt := 44) hE.x hE.b dX9_digest_98 (by decide) ?_
                    exact ih44 hh (x + 1) _ _ _ (by omega) (by omega) (by rw [hhh, show k = T - (x + 1) by omega]; rfl) hB (lv_sub hl [0, 2, 3] rfl)
                  · refine lv_ldc2 (v := lN 31) hE.x hE.b hE.o (hE.t _ q5_144) dX9_digest_66 ?_
                    refine lv_lload_n hE.x hE.b dX9_digest_69 rfl (lv_at hl 2 rfl) ?_
                    refine lv_lmul hE.x hE.b dX9_digest_70 ?_
                    refine lv_aload_n hE.x hE.b dX9_digest_71 rfl (lv_at hl 3 rfl) ?_
                    refine z_get (v := .ref (a 0)) hE hB inX9 0 rfl rfl 0 (by decide) q4_1 (fun _ h9 => h9) rfl dX9_digest_72 ?_
                    refine lv_bipush (v := (nI 10)) hE.x hE.b dX9_digest_75 rfl ?_
                    refine lv_bipush (v := (nI 6)) hE.x hE.b dX9_digest_77 rfl ?_
                    refine lv_iload_n hE.x hE.b dX9_digest_79 rfl (lv_at hl 1 rfl) ?_
                    refine z_imulN hE dX9_digest_80 ?_
                    refine z_iaddN hE dX9_digest_81 ?_
                    refine lv_iload hE.x hE.b dX9_digest_82 (lv_at hl 0 rfl) ?_
                    refine z_iaddN hE dX9_digest_84 ?_
                    refine z_iald (k := ((10 + (6 * x)) + (x + 1 + k))) (f := (A 0)) hE hB 1 rfl (by omega) (by decide) dX9_digest_85 ?_
                    refine lv_i2l hE.x hE.b dX9_digest_86 rfl ?_
                    refine lv_ladd hE.x hE.b dX9_digest_87 ?_
                    refine lv_lstore_n (lv' := [(1, .long (((lN 31) * hh) + (Int32.toInt64 ((A 0) ((10 + (6 * x)) + (x + 1 + k)))))), (4, .int (nI (x + 1 + k))), (3, .int (nI x)), (0, .ref o)]) hE.x hE.b dX9_digest_88 rfl hl (by decide) rfl (fun ls hl => ?_)
                    refine lv_iinc (v := (nI ((x + 1 + k) + 1))) (lv' := [(4, .int (nI ((x + 1 + k) + 1))), (1, .long (((lN 31) * hh) + (Int32.toInt64 ((A 0) ((10 + (6 * x)) + (x + 1 + k)))))), (3, .int (nI x)), (0, .ref o)]) hE.x hE.b dX9_digest_89 hl (k := 1) rfl (nI_add _ _) (by decide) rfl (fun ls hl => ?_)
                    refine lv_goto (tgt := 57) hE.x hE.b dX9_digest_92 (by decide) ?_
                    exact ih57 (((lN 31) * hh) + (Int32.toInt64 ((A 0) ((10 + (6 * x)) + (x + 1 + k))))) (k + 1) _ _ _ (by omega) (by omega) (by rw [hhh]; rfl) hB (lv_sub hl [0, 2, 1, 3] rfl)
              exact k57 (T - 0 + 1) hh 0 _ _ _ (Nat.lt_succ_self _) (by omega) hhh hB hl
        exact k44 (T - 0 + 1) (smL (A 0) hh 4 T) 0 _ _ _ (Nat.lt_succ_self _) (by omega) (by rw [hhh, show k = 6 by omega]; rfl) hB hl
      · refine lv_ldc2 (v := lN 31) hE.x hE.b hE.o (hE.t _ q5_144) dX9_digest_12 ?_
        refine lv_lload_n hE.x hE.b dX9_digest_15 rfl (lv_at hl 1 rfl) ?_
        refine lv_lmul hE.x hE.b dX9_digest_16 ?_
        refine lv_aload_n hE.x hE.b dX9_digest_17 rfl (lv_at hl 2 rfl) ?_
        refine lv_iload_n hE.x hE.b dX9_digest_18 rfl (lv_at hl 0 rfl) ?_
        refine z_qi hB (z_cV hE hB (c_X9_counted l g o a F L A X T C V U ln k hn hln (by omega) (by omega)) q5_131 kX9_counted ⟨rfl, rfl⟩ ⟨Nat.le_of_ble_eq_true rfl, Nat.le_of_ble_eq_true rfl⟩ 0 rfl rfl rfl hl.1 rfl (Nat.le_of_ble_eq_true rfl) dX9_digest_19 ⟨Nat.le_of_ble_eq_true rfl, Nat.le_of_ble_eq_true rfl⟩) (fun r_18 w_19 H locs hw hB => ?_)
        obtain ⟨hr9, hw9⟩ := hw
        have hr9 := hr9.symm
        subst hr9
        have hw9 := hw9.symm
        subst hw9
        have hcl := cntN_le (n := A 0) (w := k) hT6 hC8 hV8 hU8 hl150
        refine lv_i2l (v := lN (cntN (A 0) T C V U ln k)) hE.x hE.b dX9_digest_22 (nI_l (by omega)) ?_
        refine lv_ladd hE.x hE.b dX9_digest_23 ?_
        refine lv_lstore_n (lv' := [(1, .long (((lN 31) * hh) + (lN (cntN (A 0) T C V U ln k)))), (3, .int (nI k)), (0, .ref o)]) hE.x hE.b dX9_digest_24 rfl hl (by decide) rfl (fun ls hl => ?_)
        refine lv_iinc (v := (nI (k + 1))) (lv' := [(3, .int (nI (k + 1))), (1, .long (((lN 31) * hh) + (lN (cntN (A 0) T C V U ln k)))), (0, .ref o)]) hE.x hE.b dX9_digest_25 hl (k := 1) rfl (nI_add _ _) (by decide) rfl (fun ls hl => ?_)
        refine lv_goto (tgt := 6) hE.x hE.b dX9_digest_28 (by decide) ?_
        exact ih6 (((lN 31) * hh) + (lN (cntN (A 0) T C V U ln k))) (k + 1) _ _ _ (by omega) (by omega) (by rw [hhh]; rfl) hB hl
  exact k6 (6 - 0 + 1) (lN 947) 0 _ _ _ (Nat.lt_succ_self _) (by omega) rfl hB hl

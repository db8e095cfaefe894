theorem dX4_empty_0 : decode cX4_empty 0 = .ok (.aload_n 0, 1) := by decide +kernel
theorem dX4_empty_1 : decode cX4_empty 1 = .ok (.iconst 0, 1) := by decide +kernel
theorem dX4_empty_2 : decode cX4_empty 2 = .ok (.putfield 39, 3) := by decide +kernel
theorem dX4_empty_5 : decode cX4_empty 5 = .ok (.aload_n 0, 1) := by decide +kernel
theorem dX4_empty_6 : decode cX4_empty 6 = .ok (.iconst 0, 1) := by decide +kernel
theorem dX4_empty_7 : decode cX4_empty 7 = .ok (.putfield 43, 3) := by decide +kernel
theorem dX4_empty_10 : decode cX4_empty 10 = .ok (.aload_n 0, 1) := by decide +kernel
theorem dX4_empty_11 : decode cX4_empty 11 = .ok (.iconst 0, 1) := by decide +kernel
theorem dX4_empty_12 : decode cX4_empty 12 = .ok (.putfield 46, 3) := by decide +kernel
theorem dX4_empty_15 : decode cX4_empty 15 = .ok (.aload_n 0, 1) := by decide +kernel
theorem dX4_empty_16 : decode cX4_empty 16 = .ok (.iconst 0, 1) := by decide +kernel
theorem dX4_empty_17 : decode cX4_empty 17 = .ok (.putfield 49, 3) := by decide +kernel
theorem dX4_empty_20 : decode cX4_empty 20 = .ok (.iconst 0, 1) := by decide +kernel
theorem dX4_empty_21 : decode cX4_empty 21 = .ok (.istore_n 1, 1) := by decide +kernel
theorem dX4_empty_22 : decode cX4_empty 22 = .ok (.iload_n 1, 1) := by decide +kernel
theorem dX4_empty_23 : decode cX4_empty 23 = .ok (.aload_n 0, 1) := by decide +kernel
theorem dX4_empty_24 : decode cX4_empty 24 = .ok (.getfield 15, 3) := by decide +kernel
theorem dX4_empty_27 : decode cX4_empty 27 = .ok (.arraylength, 1) := by decide +kernel
theorem dX4_empty_28 : decode cX4_empty 28 = .ok (.if_icmp .ge 16, 3) := by decide +kernel
theorem dX4_empty_31 : decode cX4_empty 31 = .ok (.aload_n 0, 1) := by decide +kernel
theorem dX4_empty_32 : decode cX4_empty 32 = .ok (.getfield 15, 3) := by decide +kernel
theorem dX4_empty_35 : decode cX4_empty 35 = .ok (.iload_n 1, 1) := by decide +kernel
theorem dX4_empty_36 : decode cX4_empty 36 = .ok (.iconst 0, 1) := by decide +kernel
theorem dX4_empty_37 : decode cX4_empty 37 = .ok (.iastore, 1) := by decide +kernel
theorem dX4_empty_38 : decode cX4_empty 38 = .ok (.iinc 1 1, 3) := by decide +kernel
theorem dX4_empty_41 : decode cX4_empty 41 = .ok (.goto (-19), 3) := by decide +kernel
theorem dX4_empty_44 : decode cX4_empty 44 = .ok (.return_, 1) := by decide +kernel
theorem dX4_dropClause_0 : decode cX4_dropClause 0 = .ok (.aload_n 0, 1) := by decide +kernel
theorem dX4_dropClause_1 : decode cX4_dropClause 1 = .ok (.getfield 20, 3) := by decide +kernel
theorem dX4_dropClause_4 : decode cX4_dropClause 4 = .ok (.iload_n 1, 1) := by decide +kernel
theorem dX4_dropClause_5 : decode cX4_dropClause 5 = .ok (.iconst 1, 1) := by decide +kernel
theorem dX4_dropClause_6 : decode cX4_dropClause 6 = .ok (.iadd, 1) := by decide +kernel
theorem dX4_dropClause_7 : decode cX4_dropClause 7 = .ok (.aload_n 0, 1) := by decide +kernel
theorem dX4_dropClause_8 : decode cX4_dropClause 8 = .ok (.getfield 20, 3) := by decide +kernel
theorem dX4_dropClause_11 : decode cX4_dropClause 11 = .ok (.iload_n 1, 1) := by decide +kernel
theorem dX4_dropClause_12 : decode cX4_dropClause 12 = .ok (.aload_n 0, 1) := by decide +kernel
theorem dX4_dropClause_13 : decode cX4_dropClause 13 = .ok (.getfield 43, 3) := by decide +kernel
theorem dX4_dropClause_16 : decode cX4_dropClause 16 = .ok (.iload_n 1, 1) := by decide +kernel
theorem dX4_dropClause_17 : decode cX4_dropClause 17 = .ok (.isub, 1) := by decide +kernel
theorem dX4_dropClause_18 : decode cX4_dropClause 18 = .ok (.iconst 1, 1) := by decide +kernel
theorem dX4_dropClause_19 : decode cX4_dropClause 19 = .ok (.isub, 1) := by decide +kernel
theorem dX4_dropClause_20 : decode cX4_dropClause 20 = .ok (.invokestatic 58, 3) := by decide +kernel
theorem dX4_dropClause_23 : decode cX4_dropClause 23 = .ok (.aload_n 0, 1) := by decide +kernel
theorem dX4_dropClause_24 : decode cX4_dropClause 24 = .ok (.dup, 1) := by decide +kernel
theorem dX4_dropClause_25 : decode cX4_dropClause 25 = .ok (.getfield 43, 3) := by decide +kernel
theorem dX4_dropClause_28 : decode cX4_dropClause 28 = .ok (.iconst 1, 1) := by decide +kernel
theorem dX4_dropClause_29 : decode cX4_dropClause 29 = .ok (.isub, 1) := by decide +kernel
theorem dX4_dropClause_30 : decode cX4_dropClause 30 = .ok (.putfield 43, 3) := by decide +kernel
theorem dX4_dropClause_33 : decode cX4_dropClause 33 = .ok (.return_, 1) := by decide +kernel
theorem dX4_remember_0 : decode cX4_remember 0 = .ok (.aload_n 0, 1) := by decide +kernel
theorem dX4_remember_1 : decode cX4_remember 1 = .ok (.getfield 46, 3) := by decide +kernel
theorem dX4_remember_4 : decode cX4_remember 4 = .ok (.bipush 8, 2) := by decide +kernel
theorem dX4_remember_6 : decode cX4_remember 6 = .ok (.if_icmp .lt 40, 3) := by decide +kernel
theorem dX4_remember_9 : decode cX4_remember 9 = .ok (.aload_n 0, 1) := by decide +kernel
theorem dX4_remember_10 : decode cX4_remember 10 = .ok (.getfield 24, 3) := by decide +kernel
theorem dX4_remember_13 : decode cX4_remember 13 = .ok (.bipush 8, 2) := by decide +kernel
theorem dX4_remember_15 : decode cX4_remember 15 = .ok (.aload_n 0, 1) := by decide +kernel
theorem dX4_remember_16 : decode cX4_remember 16 = .ok (.getfield 24, 3) := by decide +kernel
theorem dX4_remember_19 : decode cX4_remember 19 = .ok (.iconst 0, 1) := by decide +kernel
theorem dX4_remember_20 : decode cX4_remember 20 = .ok (.bipush 56, 2) := by decide +kernel
theorem dX4_remember_22 : decode cX4_remember 22 = .ok (.invokestatic 58, 3) := by decide +kernel
theorem dX4_remember_25 : decode cX4_remember 25 = .ok (.aload_n 0, 1) := by decide +kernel
theorem dX4_remember_26 : decode cX4_remember 26 = .ok (.getfield 27, 3) := by decide +kernel
theorem dX4_remember_29 : decode cX4_remember 29 = .ok (.iconst 1, 1) := by decide +kernel
theorem dX4_remember_30 : decode cX4_remember 30 = .ok (.aload_n 0, 1) := by decide +kernel
theorem dX4_remember_31 : decode cX4_remember 31 = .ok (.getfield 27, 3) := by decide +kernel
theorem dX4_remember_34 : decode cX4_remember 34 = .ok (.iconst 0, 1) := by decide +kernel
theorem dX4_remember_35 : decode cX4_remember 35 = .ok (.bipush 7, 2) := by decide +kernel
theorem dX4_remember_37 : decode cX4_remember 37 = .ok (.invokestatic 52, 3) := by decide +kernel
theorem dX4_remember_40 : decode cX4_remember 40 = .ok (.aload_n 0, 1) := by decide +kernel
theorem dX4_remember_41 : decode cX4_remember 41 = .ok (.bipush 7, 2) := by decide +kernel
theorem dX4_remember_43 : decode cX4_remember 43 = .ok (.putfield 46, 3) := by decide +kernel
theorem dX4_remember_46 : decode cX4_remember 46 = .ok (.aload_n 0, 1) := by decide +kernel
theorem dX4_remember_47 : decode cX4_remember 47 = .ok (.getfield 20, 3) := by decide +kernel
theorem dX4_remember_50 : decode cX4_remember 50 = .ok (.iconst 0, 1) := by decide +kernel
theorem dX4_remember_51 : decode cX4_remember 51 = .ok (.aload_n 0, 1) := by decide +kernel
theorem dX4_remember_52 : decode cX4_remember 52 = .ok (.getfield 24, 3) := by decide +kernel
theorem dX4_remember_55 : decode cX4_remember 55 = .ok (.aload_n 0, 1) := by decide +kernel
theorem dX4_remember_56 : decode cX4_remember 56 = .ok (.getfield 46, 3) := by decide +kernel
theorem dX4_remember_59 : decode cX4_remember 59 = .ok (.bipush 8, 2) := by decide +kernel
theorem dX4_remember_61 : decode cX4_remember 61 = .ok (.imul, 1) := by decide +kernel
theorem dX4_remember_62 : decode cX4_remember 62 = .ok (.bipush 8, 2) := by decide +kernel
theorem dX4_remember_64 : decode cX4_remember 64 = .ok (.invokestatic 58, 3) := by decide +kernel
theorem dX4_remember_67 : decode cX4_remember 67 = .ok (.aload_n 0, 1) := by decide +kernel
theorem dX4_remember_68 : decode cX4_remember 68 = .ok (.getfield 27, 3) := by decide +kernel
theorem dX4_remember_71 : decode cX4_remember 71 = .ok (.aload_n 0, 1) := by decide +kernel
theorem dX4_remember_72 : decode cX4_remember 72 = .ok (.getfield 46, 3) := by decide +kernel
theorem dX4_remember_75 : decode cX4_remember 75 = .ok (.aload_n 0, 1) := by decide +kernel
theorem dX4_remember_76 : decode cX4_remember 76 = .ok (.getfield 43, 3) := by decide +kernel
theorem dX4_remember_79 : decode cX4_remember 79 = .ok (.iastore, 1) := by decide +kernel
theorem dX4_remember_80 : decode cX4_remember 80 = .ok (.aload_n 0, 1) := by decide +kernel
theorem dX4_remember_81 : decode cX4_remember 81 = .ok (.dup, 1) := by decide +kernel
theorem dX4_remember_82 : decode cX4_remember 82 = .ok (.getfield 46, 3) := by decide +kernel
theorem dX4_remember_85 : decode cX4_remember 85 = .ok (.iconst 1, 1) := by decide +kernel
theorem dX4_remember_86 : decode cX4_remember 86 = .ok (.iadd, 1) := by decide +kernel
theorem dX4_remember_87 : decode cX4_remember 87 = .ok (.putfield 46, 3) := by decide +kernel
theorem dX4_remember_90 : decode cX4_remember 90 = .ok (.return_, 1) := by decide +kernel
theorem dX4_goBack_0 : decode cX4_goBack 0 = .ok (.aload_n 0, 1) := by decide +kernel
theorem dX4_goBack_1 : decode cX4_goBack 1 = .ok (.dup, 1) := by decide +kernel
theorem dX4_goBack_2 : decode cX4_goBack 2 = .ok (.getfield 46, 3) := by decide +kernel
theorem dX4_goBack_5 : decode cX4_goBack 5 = .ok (.iconst 1, 1) := by decide +kernel
theorem dX4_goBack_6 : decode cX4_goBack 6 = .ok (.isub, 1) := by decide +kernel
theorem dX4_goBack_7 : decode cX4_goBack 7 = .ok (.putfield 46, 3) := by decide +kernel
theorem dX4_goBack_10 : decode cX4_goBack 10 = .ok (.aload_n 0, 1) := by decide +kernel
theorem dX4_goBack_11 : decode cX4_goBack 11 = .ok (.getfield 24, 3) := by decide +kernel
theorem dX4_goBack_14 : decode cX4_goBack 14 = .ok (.aload_n 0, 1) := by decide +kernel
theorem dX4_goBack_15 : decode cX4_goBack 15 = .ok (.getfield 46, 3) := by decide +kernel
theorem dX4_goBack_18 : decode cX4_goBack 18 = .ok (.bipush 8, 2) := by decide +kernel
theorem dX4_goBack_20 : decode cX4_goBack 20 = .ok (.imul, 1) := by decide +kernel
theorem dX4_goBack_21 : decode cX4_goBack 21 = .ok (.aload_n 0, 1) := by decide +kernel
theorem dX4_goBack_22 : decode cX4_goBack 22 = .ok (.getfield 20, 3) := by decide +kernel
theorem dX4_goBack_25 : decode cX4_goBack 25 = .ok (.iconst 0, 1) := by decide +kernel
theorem dX4_goBack_26 : decode cX4_goBack 26 = .ok (.bipush 8, 2) := by decide +kernel
theorem dX4_goBack_28 : decode cX4_goBack 28 = .ok (.invokestatic 58, 3) := by decide +kernel
theorem dX4_goBack_31 : decode cX4_goBack 31 = .ok (.aload_n 0, 1) := by decide +kernel
theorem dX4_goBack_32 : decode cX4_goBack 32 = .ok (.aload_n 0, 1) := by decide +kernel
theorem dX4_goBack_33 : decode cX4_goBack 33 = .ok (.getfield 27, 3) := by decide +kernel
theorem dX4_goBack_36 : decode cX4_goBack 36 = .ok (.aload_n 0, 1) := by decide +kernel
theorem dX4_goBack_37 : decode cX4_goBack 37 = .ok (.getfield 46, 3) := by decide +kernel
theorem dX4_goBack_40 : decode cX4_goBack 40 = .ok (.iaload, 1) := by decide +kernel
theorem dX4_goBack_41 : decode cX4_goBack 41 = .ok (.putfield 43, 3) := by decide +kernel
theorem dX4_goBack_44 : decode cX4_goBack 44 = .ok (.return_, 1) := by decide +kernel
theorem dX4_becomeLike_0 : decode cX4_becomeLike 0 = .ok (.aload_n 0, 1) := by decide +kernel
theorem dX4_becomeLike_1 : decode cX4_becomeLike 1 = .ok (.aload_n 1, 1) := by decide +kernel
theorem dX4_becomeLike_2 : decode cX4_becomeLike 2 = .ok (.getfield 39, 3) := by decide +kernel
theorem dX4_becomeLike_5 : decode cX4_becomeLike 5 = .ok (.putfield 39, 3) := by decide +kernel
theorem dX4_becomeLike_8 : decode cX4_becomeLike 8 = .ok (.aload_n 0, 1) := by decide +kernel
theorem dX4_becomeLike_9 : decode cX4_becomeLike 9 = .ok (.aload_n 1, 1) := by decide +kernel
theorem dX4_becomeLike_10 : decode cX4_becomeLike 10 = .ok (.getfield 43, 3) := by decide +kernel
theorem dX4_becomeLike_13 : decode cX4_becomeLike 13 = .ok (.putfield 43, 3) := by decide +kernel
theorem dX4_becomeLike_16 : decode cX4_becomeLike 16 = .ok (.aload_n 0, 1) := by decide +kernel
theorem dX4_becomeLike_17 : decode cX4_becomeLike 17 = .ok (.aload_n 1, 1) := by decide +kernel
theorem dX4_becomeLike_18 : decode cX4_becomeLike 18 = .ok (.getfield 46, 3) := by decide +kernel
theorem dX4_becomeLike_21 : decode cX4_becomeLike 21 = .ok (.putfield 46, 3) := by decide +kernel
theorem dX4_becomeLike_24 : decode cX4_becomeLike 24 = .ok (.aload_n 0, 1) := by decide +kernel
theorem dX4_becomeLike_25 : decode cX4_becomeLike 25 = .ok (.aload_n 1, 1) := by decide +kernel
theorem dX4_becomeLike_26 : decode cX4_becomeLike 26 = .ok (.getfield 49, 3) := by decide +kernel
theorem dX4_becomeLike_29 : decode cX4_becomeLike 29 = .ok (.putfield 49, 3) := by decide +kernel
theorem dX4_becomeLike_32 : decode cX4_becomeLike 32 = .ok (.aload_n 1, 1) := by decide +kernel
theorem dX4_becomeLike_33 : decode cX4_becomeLike 33 = .ok (.getfield 9, 3) := by decide +kernel
theorem dX4_becomeLike_36 : decode cX4_becomeLike 36 = .ok (.iconst 0, 1) := by decide +kernel
theorem dX4_becomeLike_37 : decode cX4_becomeLike 37 = .ok (.aload_n 0, 1) := by decide +kernel
theorem dX4_becomeLike_38 : decode cX4_becomeLike 38 = .ok (.getfield 9, 3) := by decide +kernel
theorem dX4_becomeLike_41 : decode cX4_becomeLike 41 = .ok (.iconst 0, 1) := by decide +kernel
theorem dX4_becomeLike_42 : decode cX4_becomeLike 42 = .ok (.aload_n 0, 1) := by decide +kernel
theorem dX4_becomeLike_43 : decode cX4_becomeLike 43 = .ok (.getfield 9, 3) := by decide +kernel
theorem dX4_becomeLike_46 : decode cX4_becomeLike 46 = .ok (.arraylength, 1) := by decide +kernel
theorem dX4_becomeLike_47 : decode cX4_becomeLike 47 = .ok (.invokestatic 52, 3) := by decide +kernel
theorem dX4_becomeLike_50 : decode cX4_becomeLike 50 = .ok (.aload_n 1, 1) := by decide +kernel
theorem dX4_becomeLike_51 : decode cX4_becomeLike 51 = .ok (.getfield 15, 3) := by decide +kernel
theorem dX4_becomeLike_54 : decode cX4_becomeLike 54 = .ok (.iconst 0, 1) := by decide +kernel
theorem dX4_becomeLike_55 : decode cX4_becomeLike 55 = .ok (.aload_n 0, 1) := by decide +kernel
theorem dX4_becomeLike_56 : decode cX4_becomeLike 56 = .ok (.getfield 15, 3) := by decide +kernel
theorem dX4_becomeLike_59 : decode cX4_becomeLike 59 = .ok (.iconst 0, 1) := by decide +kernel
theorem dX4_becomeLike_60 : decode cX4_becomeLike 60 = .ok (.aload_n 0, 1) := by decide +kernel
theorem dX4_becomeLike_61 : decode cX4_becomeLike 61 = .ok (.getfield 15, 3) := by decide +kernel
theorem dX4_becomeLike_64 : decode cX4_becomeLike 64 = .ok (.arraylength, 1) := by decide +kernel
theorem dX4_becomeLike_65 : decode cX4_becomeLike 65 = .ok (.invokestatic 52, 3) := by decide +kernel
theorem dX4_becomeLike_68 : decode cX4_becomeLike 68 = .ok (.aload_n 1, 1) := by decide +kernel
theorem dX4_becomeLike_69 : decode cX4_becomeLike 69 = .ok (.getfield 20, 3) := by decide +kernel
theorem dX4_becomeLike_72 : decode cX4_becomeLike 72 = .ok (.iconst 0, 1) := by decide +kernel
theorem dX4_becomeLike_73 : decode cX4_becomeLike 73 = .ok (.aload_n 0, 1) := by decide +kernel
theorem dX4_becomeLike_74 : decode cX4_becomeLike 74 = .ok (.getfield 20, 3) := by decide +kernel
theorem dX4_becomeLike_77 : decode cX4_becomeLike 77 = .ok (.iconst 0, 1) := by decide +kernel
theorem dX4_becomeLike_78 : decode cX4_becomeLike 78 = .ok (.aload_n 0, 1) := by decide +kernel
theorem dX4_becomeLike_79 : decode cX4_becomeLike 79 = .ok (.getfield 20, 3) := by decide +kernel
theorem dX4_becomeLike_82 : decode cX4_becomeLike 82 = .ok (.arraylength, 1) := by decide +kernel
theorem dX4_becomeLike_83 : decode cX4_becomeLike 83 = .ok (.invokestatic 58, 3) := by decide +kernel
theorem dX4_becomeLike_86 : decode cX4_becomeLike 86 = .ok (.aload_n 1, 1) := by decide +kernel
theorem dX4_becomeLike_87 : decode cX4_becomeLike 87 = .ok (.getfield 24, 3) := by decide +kernel
theorem dX4_becomeLike_90 : decode cX4_becomeLike 90 = .ok (.iconst 0, 1) := by decide +kernel
theorem dX4_becomeLike_91 : decode cX4_becomeLike 91 = .ok (.aload_n 0, 1) := by decide +kernel
theorem dX4_becomeLike_92 : decode cX4_becomeLike 92 = .ok (.getfield 24, 3) := by decide +kernel
theorem dX4_becomeLike_95 : decode cX4_becomeLike 95 = .ok (.iconst 0, 1) := by decide +kernel
theorem dX4_becomeLike_96 : decode cX4_becomeLike 96 = .ok (.aload_n 0, 1) := by decide +kernel
theorem dX4_becomeLike_97 : decode cX4_becomeLike 97 = .ok (.getfield 24, 3) := by decide +kernel
theorem dX4_becomeLike_100 : decode cX4_becomeLike 100 = .ok (.arraylength, 1) := by decide +kernel
theorem dX4_becomeLike_101 : decode cX4_becomeLike 101 = .ok (.invokestatic 58, 3) := by decide +kernel
theorem dX4_becomeLike_104 : decode cX4_becomeLike 104 = .ok (.aload_n 1, 1) := by decide +kernel
theorem dX4_becomeLike_105 : decode cX4_becomeLike 105 = .ok (.getfield 27, 3) := by decide +kernel
theorem dX4_becomeLike_108 : decode cX4_becomeLike 108 = .ok (.iconst 0, 1) := by decide +kernel
theorem dX4_becomeLike_109 : decode cX4_becomeLike 109 = .ok (.aload_n 0, 1) := by decide +kernel
theorem dX4_becomeLike_110 : decode cX4_becomeLike 110 = .ok (.getfield 27, 3) := by decide +kernel
theorem dX4_becomeLike_113 : decode cX4_becomeLike 113 = .ok (.iconst 0, 1) := by decide +kernel
theorem dX4_becomeLike_114 : decode cX4_becomeLike 114 = .ok (.aload_n 0, 1) := by decide +kernel
theorem dX4_becomeLike_115 : decode cX4_becomeLike 115 = .ok (.getfield 27, 3) := by decide +kernel
theorem dX4_becomeLike_118 : decode cX4_becomeLike 118 = .ok (.arraylength, 1) := by decide +kernel
theorem dX4_becomeLike_119 : decode cX4_becomeLike 119 = .ok (.invokestatic 52, 3) := by decide +kernel
theorem dX4_becomeLike_122 : decode cX4_becomeLike 122 = .ok (.aload_n 1, 1) := by decide +kernel
theorem dX4_becomeLike_123 : decode cX4_becomeLike 123 = .ok (.getfield 30, 3) := by decide +kernel
theorem dX4_becomeLike_126 : decode cX4_becomeLike 126 = .ok (.iconst 0, 1) := by decide +kernel
theorem dX4_becomeLike_127 : decode cX4_becomeLike 127 = .ok (.aload_n 0, 1) := by decide +kernel
theorem dX4_becomeLike_128 : decode cX4_becomeLike 128 = .ok (.getfield 30, 3) := by decide +kernel
theorem dX4_becomeLike_131 : decode cX4_becomeLike 131 = .ok (.iconst 0, 1) := by decide +kernel
theorem dX4_becomeLike_132 : decode cX4_becomeLike 132 = .ok (.aload_n 0, 1) := by decide +kernel
theorem dX4_becomeLike_133 : decode cX4_becomeLike 133 = .ok (.getfield 30, 3) := by decide +kernel
theorem dX4_becomeLike_136 : decode cX4_becomeLike 136 = .ok (.arraylength, 1) := by decide +kernel
theorem dX4_becomeLike_137 : decode cX4_becomeLike 137 = .ok (.invokestatic 52, 3) := by decide +kernel
theorem dX4_becomeLike_140 : decode cX4_becomeLike 140 = .ok (.return_, 1) := by decide +kernel
theorem dX4_init_0 : decode cX4_init 0 = .ok (.aload_n 0, 1) := by decide +kernel
theorem dX4_init_1 : decode cX4_init 1 = .ok (.invokespecial 3, 3) := by decide +kernel
theorem dX4_init_4 : decode cX4_init 4 = .ok (.aload_n 0, 1) := by decide +kernel
theorem dX4_init_5 : decode cX4_init 5 = .ok (.bipush 6, 2) := by decide +kernel
theorem dX4_init_7 : decode cX4_init 7 = .ok (.newarray .int, 2) := by decide +kernel
theorem dX4_init_9 : decode cX4_init 9 = .ok (.putfield 9, 3) := by decide +kernel
theorem dX4_init_12 : decode cX4_init 12 = .ok (.aload_n 0, 1) := by decide +kernel
theorem dX4_init_13 : decode cX4_init 13 = .ok (.bipush 36, 2) := by decide +kernel
theorem dX4_init_15 : decode cX4_init 15 = .ok (.newarray .int, 2) := by decide +kernel
theorem dX4_init_17 : decode cX4_init 17 = .ok (.putfield 15, 3) := by decide +kernel
theorem dX4_init_20 : decode cX4_init 20 = .ok (.aload_n 0, 1) := by decide +kernel
theorem dX4_init_21 : decode cX4_init 21 = .ok (.bipush 8, 2) := by decide +kernel
theorem dX4_init_23 : decode cX4_init 23 = .ok (.anewarray 18, 3) := by decide +kernel
theorem dX4_init_26 : decode cX4_init 26 = .ok (.putfield 20, 3) := by decide +kernel
theorem dX4_init_29 : decode cX4_init 29 = .ok (.aload_n 0, 1) := by decide +kernel
theorem dX4_init_30 : decode cX4_init 30 = .ok (.bipush 64, 2) := by decide +kernel
theorem dX4_init_32 : decode cX4_init 32 = .ok (.anewarray 18, 3) := by decide +kernel
theorem dX4_init_35 : decode cX4_init 35 = .ok (.putfield 24, 3) := by decide +kernel
theorem dX4_init_38 : decode cX4_init 38 = .ok (.aload_n 0, 1) := by decide +kernel
theorem dX4_init_39 : decode cX4_init 39 = .ok (.bipush 8, 2) := by decide +kernel
theorem dX4_init_41 : decode cX4_init 41 = .ok (.newarray .int, 2) := by decide +kernel
theorem dX4_init_43 : decode cX4_init 43 = .ok (.putfield 27, 3) := by decide +kernel
theorem dX4_init_46 : decode cX4_init 46 = .ok (.aload_n 0, 1) := by decide +kernel
theorem dX4_init_47 : decode cX4_init 47 = .ok (.bipush 40, 2) := by decide +kernel
theorem dX4_init_49 : decode cX4_init 49 = .ok (.newarray .int, 2) := by decide +kernel
theorem dX4_init_51 : decode cX4_init 51 = .ok (.putfield 30, 3) := by decide +kernel
theorem dX4_init_54 : decode cX4_init 54 = .ok (.aload_n 0, 1) := by decide +kernel
theorem dX4_init_55 : decode cX4_init 55 = .ok (.bipush 6, 2) := by decide +kernel
theorem dX4_init_57 : decode cX4_init 57 = .ok (.newarray .int, 2) := by decide +kernel
theorem dX4_init_59 : decode cX4_init 59 = .ok (.putfield 33, 3) := by decide +kernel
theorem dX4_init_62 : decode cX4_init 62 = .ok (.aload_n 0, 1) := by decide +kernel
theorem dX4_init_63 : decode cX4_init 63 = .ok (.bipush 36, 2) := by decide +kernel
theorem dX4_init_65 : decode cX4_init 65 = .ok (.newarray .int, 2) := by decide +kernel
theorem dX4_init_67 : decode cX4_init 67 = .ok (.putfield 36, 3) := by decide +kernel
theorem dX4_init_70 : decode cX4_init 70 = .ok (.return_, 1) := by decide +kernel
theorem kX4_empty : zCV yX4_empty RX4 cX4_empty 2 none 0 := ⟨q1_116, q1_117, q1_2, q1_118, rfl, by decide +kernel, by decide +kernel, by decide +kernel⟩
theorem kX4_dropClause : zCV yX4_dropClause RX4 cX4_dropClause 2 none 1 := ⟨q2_38, q2_39, q1_2, q2_40, rfl, by decide +kernel, by decide +kernel, by decide +kernel⟩
theorem kX4_remember : zCV yX4_remember RX4 cX4_remember 1 none 0 := ⟨q1_159, q1_160, q1_2, q1_161, rfl, by decide +kernel, by decide +kernel, by decide +kernel⟩
theorem kX4_goBack : zCV yX4_goBack RX4 cX4_goBack 1 none 0 := ⟨q2_50, q2_51, q1_2, q2_52, rfl, by decide +kernel, by decide +kernel, by decide +kernel⟩
theorem kX4_becomeLike : zCV yX4_becomeLike RX4 cX4_becomeLike 2 none 1 := ⟨q3_199, q3_200, q1_2, q3_201, rfl, by decide +kernel, by decide +kernel, by decide +kernel⟩
theorem kX4_init : zCI yX4_init cX4_init 1 0 := ⟨q1_28, q1_2, q1_29, rfl, by decide +kernel, by decide +kernel, by decide +kernel⟩
set_option maxHeartbeats 4000000 in
set_option maxRecDepth 100000 in
theorem c_X4_empty (l : Launch) (g : zG) (b : Nat) (a : Nat → Nat) (T : Nat) (C : Nat) (U : Nat) (V : Nat) (rd : Nat → Int32) (ro : Nat → Int32) (lw : Nat → Option Nat) (pl : Nat → Option Nat) (pc : Nat → Int32) (gv : Nat → Int32) (aw : Nat → Int32) (nt : Nat → Int32) (X : va_W)  : Met l yX4_empty (Cond.code yX4_empty cX4_empty 2 none :: TBL) { frames := 0, cells := 0, slots := 0, locals := 0 } (zPc [.ref b] g (lW g b a (nI T) (nI C) (nI U) (nI V) rd ro lw pl pc gv aw nt ++ X)) (zQv g (fun ws => ∃ (f9 : Nat → Int32), ws = lW g b a (nI 0) (nI 0) (nI 0) (nI 0) rd f9 lw pl pc gv aw nt ++ X ∧ (∀ i, i < 36 → f9 i = nI 0))) 0 0 (zA (gz g)) := by
  refine z_start (by decide +kernel) rfl (Nat.le_of_ble_eq_true rfl) ?_
  intro p e s m args below meth c ls hE hr hnm hB hl
  have hl : lv_has ls 2 [(0, .ref b)] := hl
  revert hB
  generalize s.heap = H
  generalize ([] : List Loc) = locs
  intro hB
  refine lv_aload_n hE.x hE.b dX4_empty_0 rfl (lv_at hl 0 rfl) ?_
  refine lv_iconst (v := nI 0) hE.x hE.b dX4_empty_1 rfl ?_
  refine z_put (v := .int (nI 0)) (ty := .int) (ws' := lW g b a (nI 0) (nI C) (nI U) (nI V) rd ro lw pl pc gv aw nt ++ X) hE hB inX4 tyX4 tyX4_ok nmX4 0 rfl rfl 0 (by decide) q1_33 (fun _ h9 => h9) rfl (by decide +kernel) rfl rfl (Nat.le_of_ble_eq_true rfl) rfl dX4_empty_2 (fun H locs hB => ?_)
  refine lv_aload_n hE.x hE.b dX4_empty_5 rfl (lv_at hl 0 rfl) ?_
  refine lv_iconst (v := nI 0) hE.x hE.b dX4_empty_6 rfl ?_
  refine z_put (v := .int (nI 0)) (ty := .int) (ws' := lW g b a (nI 0) (nI 0) (nI U) (nI V) rd ro lw pl pc gv aw nt ++ X) hE hB inX4 tyX4 tyX4_ok nmX4 0 rfl rfl 1 (by decide) q1_36 (fun _ h9 => h9) rfl (by decide +kernel) rfl rfl (Nat.le_of_ble_eq_true rfl) rfl dX4_empty_7 (fun H locs hB => ?_)
  refine lv_aload_n hE.x hE.b dX4_empty_10 rfl (lv_at hl 0 rfl) ?_
  refine lv_iconst (v := nI 0) hE.x hE.b dX4_empty_11 rfl ?_
  refine z_put (v := .int (nI 0)) (ty := .int) (ws' := lW g b a (nI 0) (nI 0) (nI 0) (nI V) rd ro lw pl pc gv aw nt ++ X) hE hB inX4 tyX4 tyX4_ok nmX4 0 rfl rfl 2 (by decide) q1_39 (fun _ h9 => h9) rfl (by decide +kernel) rfl rfl (Nat.le_of_ble_eq_true rfl) rfl dX4_empty_12 (fun H locs hB => ?_)
  refine lv_aload_n hE.x hE.b dX4_empty_15 rfl (lv_at hl 0 rfl) ?_
  refine lv_iconst (v := nI 0) hE.x hE.b dX4_empty_16 rfl ?_
  refine z_put (v := .int (nI 0)) (ty := .int) (ws' := lW g b a (nI 0) (nI 0) (nI 0) (nI 0) rd ro lw pl pc gv aw nt ++ X) hE hB inX4 tyX4 tyX4_ok nmX4 0 rfl rfl 3 (by decide) q1_41 (fun _ h9 => h9) rfl (by decide +kernel) rfl rfl (Nat.le_of_ble_eq_true rfl) rfl dX4_empty_17 (fun H locs hB => ?_)
  refine lv_iconst (v := nI 0) hE.x hE.b dX4_empty_20 rfl ?_
  refine lv_istore_n (lv' := [(1, .int (nI 0)), (0, .ref b)]) hE.x hE.b dX4_empty_21 rfl hl (by decide) rfl (fun ls hl => ?_)
  have k22 : ∀ (fu : Nat) (i : Nat) (f : Nat → Int32) (H : Heap) (locs : List Loc) (ls : Array Slot), 36 - i < fu → (i ≤ 36) → (∀ x, x < i → f x = nI 0) → zB g s (lW g b a (nI 0) (nI 0) (nI 0) (nI 0) rd f lw pl pc gv aw nt ++ X) H locs → lv_has ls 2 [(1, .int (nI i)), (0, .ref b)] → W p l e { frames := 0, cells := 0, slots := 0, locals := 0 } s m args below meth c H locs 0 0 (MQ below (zQv g (fun ws => ∃ (f9 : Nat → Int32), ws = lW g b a (nI 0) (nI 0) (nI 0) (nI 0) rd f9 lw pl pc gv aw nt ++ X ∧ (∀ i, i < 36 → f9 i = nI 0))) args s 0 0 (zA (gz g))) (F0 m 22 ls []) := by
    intro fu
    induction fu with
    | zero => intro i f H locs ls hfu hi hf hB hl; exact absurd hfu (Nat.not_lt_zero _)
    | succ fu ih22 =>
      intro i f H locs ls hfu hi hf hB hl
      refine lv_iload_n hE.x hE.b dX4_empty_22 rfl (lv_at hl 0 rfl) ?_
      refine lv_aload_n hE.x hE.b dX4_empty_23 rfl (lv_at hl 1 rfl) ?_
      refine z_get (v := .ref (a 1)) hE hB inX4 0 rfl rfl 5 (by decide) q1_44 (fun _ h9 => h9) rfl dX4_empty_24 ?_
      refine z_alen (n := 36) hE hB 2 1 rfl rfl rfl dX4_empty_27 ?_
      refine z_ge (tgt := 44) (X := ((i : Nat) : Int)) (Y := (36 : Int)) hE dX4_empty_28 (by decide) (nI_toInt (n := i) (by omega)) rfl (fun c_1 => ?_) (fun c_1 => ?_)
      · exact z_vret (ws := lW g b a (nI 0) (nI 0) (nI 0) (nI 0) rd f lw pl pc gv aw nt ++ X) hE hB hr (⟨f, rfl, by rw [show (36 : Nat) = i by omega]; exact hf⟩) dX4_empty_44
      · refine lv_aload_n hE.x hE.b dX4_empty_31 rfl (lv_at hl 1 rfl) ?_
        refine z_get (v := .ref (a 1)) hE hB inX4 0 rfl rfl 5 (by decide) q1_44 (fun _ h9 => h9) rfl dX4_empty_32 ?_
        refine lv_iload_n hE.x hE.b dX4_empty_35 rfl (lv_at hl 0 rfl) ?_
        refine lv_iconst (v := nI 0) hE.x hE.b dX4_empty_36 rfl ?_
        refine z_iast (k := i) (f := f) (x := (nI 0)) (ws' := lW g b a (nI 0) (nI 0) (nI 0) (nI 0) rd (upd f i (nI 0)) lw pl pc gv aw nt ++ X) hE hB 2 rfl (by omega) (by decide) rfl dX4_empty_37 (fun H locs hB => ?_)
        refine lv_iinc (v := (nI (i + 1))) (lv' := [(1, .int (nI (i + 1))), (0, .ref b)]) hE.x hE.b dX4_empty_38 hl (k := 0) rfl (nI_add _ _) (by decide) rfl (fun ls hl => ?_)
        refine lv_goto (tgt := 22) hE.x hE.b dX4_empty_41 (by decide) ?_
        exact ih22 (i + 1) (upd f i (nI 0)) _ _ _ (by omega) (by omega) (upd_0 hf) hB hl
  exact k22 (36 - 0 + 1) 0 ro _ _ _ (Nat.lt_succ_self _) (by omega) (fun x hx => absurd hx (Nat.not_lt_zero x)) hB hl

set_option maxHeartbeats 4000000 in
set_option maxRecDepth 100000 in
theorem c_X4_dropClause (l : Launch) (g : zG) (b : Nat) (a : Nat → Nat) (T : Nat) (C : Nat) (U : Nat) (V : Nat) (rd : Nat → Int32) (ro : Nat → Int32) (lw : Nat → Option Nat) (pl : Nat → Option Nat) (pc : Nat → Int32) (gv : Nat → Int32) (aw : Nat → Int32) (nt : Nat → Int32) (c9 : Nat) (n : Nat → Int32) (B : va_W) (X : va_W) (hn : nOK n T C V U) (hrel : relL n T C U V rd ro lw pl pc gv B) (hBX : ∀ x ∈ B, x ∈ X) (hc : c9 < C) : Met l yX4_dropClause (Cond.code yX4_dropClause cX4_dropClause 2 none :: TBL) { frames := 1, cells := 0, slots := 0, locals := 25 } (zPc [.ref b, .int (nI c9)] g (lW g b a (nI T) (nI C) (nI U) (nI V) rd ro lw pl pc gv aw nt ++ X)) (zQv g (fun ws => ws = lW g b a (nI T) (nI (C - 1)) (nI U) (nI V) rd ro (va_cpy lw lw (c9 + 1) c9 (C - c9 - 1)) pl pc gv aw nt ++ X)) 0 0 (zA (gz g)) := by
  refine z_start (by decide +kernel) rfl (Nat.le_of_ble_eq_true rfl) ?_
  intro p e s m args below meth c ls hE hr hnm hB hl
  have hl : lv_has ls 2 [(0, .ref b), (1, .int (nI c9))] := hl
  revert hB
  generalize s.heap = H
  generalize ([] : List Loc) = locs
  intro hB
  have hT6 := hn.T6
  have hC8 := hn.C8
  have hV8 := hn.V8
  have hU8 := hn.U8
  refine lv_aload_n hE.x hE.b dX4_dropClause_0 rfl (lv_at hl 0 rfl) ?_
  refine z_get (v := .ref (a 2)) hE hB inX4 0 rfl rfl 6 (by decide) q1_45 (fun _ h9 => h9) rfl dX4_dropClause_1 ?_
  refine lv_iload_n hE.x hE.b dX4_dropClause_4 rfl (lv_at hl 1 rfl) ?_
  refine lv_iconst (v := nI 1) hE.x hE.b dX4_dropClause_5 rfl ?_
  refine z_iaddN hE dX4_dropClause_6 ?_
  refine lv_aload_n hE.x hE.b dX4_dropClause_7 rfl (lv_at hl 0 rfl) ?_
  refine z_get (v := .ref (a 2)) hE hB inX4 0 rfl rfl 6 (by decide) q1_45 (fun _ h9 => h9) rfl dX4_dropClause_8 ?_
  refine lv_iload_n hE.x hE.b dX4_dropClause_11 rfl (lv_at hl 1 rfl) ?_
  refine lv_aload_n hE.x hE.b dX4_dropClause_12 rfl (lv_at hl 0 rfl) ?_
  refine z_get (v := .int (nI C)) hE hB inX4 0 rfl rfl 1 (by decide) q1_36 (fun _ h9 => h9) rfl dX4_dropClause_13 ?_
  refine lv_iload_n hE.x hE.b dX4_dropClause_16 rfl (lv_at hl 1 rfl) ?_
  refine z_isubN hE (by omega) dX4_dropClause_17 ?_
  refine lv_iconst (v := nI 1) hE.x hE.b dX4_dropClause_18 rfl ?_
  refine z_isubN hE (by omega) dX4_dropClause_19 ?_
  refine z_qv hB (z_cS hE hB (c_X4_moveClauses_s l g (a 2) 8 (c9 + 1) c9 ((C - c9) - 1) 3 lw (lW g b a (nI T) (nI C) (nI U) (nI V) rd ro lw pl pc gv aw nt ++ X) rfl (by omega) (by omega) (by omega) (by decide) (bN_app (bN_in hrel.2.2.2.2.2.1 hBX))) q1_162 kX4_moveClauses ⟨rfl, rfl⟩ ⟨Nat.le_of_ble_eq_true rfl, Nat.le_of_ble_eq_true rfl⟩ rfl hl.1 rfl (Nat.le_of_ble_eq_true rfl) dX4_dropClause_20 ⟨Nat.le_of_ble_eq_true rfl, Nat.le_of_ble_eq_true rfl⟩) (fun w_2 H locs hw hB => ?_)
  have hw9 := hw
  have hw9 := hw9.symm
  subst hw9
  have hB : zB g s (lW g b a (nI T) (nI C) (nI U) (nI V) rd ro (va_cpy lw lw (c9 + 1) c9 ((C - c9) - 1)) pl pc gv aw nt ++ X) H locs := hB
  refine lv_aload_n hE.x hE.b dX4_dropClause_23 rfl (lv_at hl 0 rfl) ?_
  refine lv_dup hE.x hE.b dX4_dropClause_24 rfl ?_
  refine z_get (v := .int (nI C)) hE hB inX4 0 rfl rfl 1 (by decide) q1_36 (fun _ h9 => h9) rfl dX4_dropClause_25 ?_
  refine lv_iconst (v := nI 1) hE.x hE.b dX4_dropClause_28 rfl ?_
  refine z_isubN hE (by omega) dX4_dropClause_29 ?_
  refine z_put (v := .int (nI (C - 1))) (ty := .int) (ws' := lW g b a (nI T) (nI (C - 1)) (nI U) (nI V) rd ro (va_cpy lw lw (c9 + 1) c9 ((C - c9) - 1)) pl pc gv aw nt ++ X) hE hB inX4 tyX4 tyX4_ok nmX4 0 rfl rfl 1 (by decide) q1_36 (fun _ h9 => h9) rfl (by decide +kernel) rfl rfl (Nat.le_of_ble_eq_true rfl) rfl dX4_dropClause_30 (fun H locs hB => ?_)
  exact z_vret (ws := lW g b a (nI T) (nI (C - 1)) (nI U) (nI V) rd ro (va_cpy lw lw (c9 + 1) c9 ((C - c9) - 1)) pl pc gv aw nt ++ X) hE hB hr (rfl) dX4_dropClause_33

set_option maxHeartbeats 4000000 in
set_option maxRecDepth 100000 in
theorem c_X4_remember (l : Launch) (g : zG) (b : Nat) (a : Nat → Nat) (T : Nat) (C : Nat) (U : Nat) (V : Nat) (rd : Nat → Int32) (ro : Nat → Int32) (lw : Nat → Option Nat) (pl : Nat → Option Nat) (pc : Nat → Int32) (gv : Nat → Int32) (aw : Nat → Int32) (nt : Nat → Int32) (n : Nat → Int32) (B : va_W) (X : va_W) (hn : nOK n T C V U) (hrel : relL n T C U V rd ro lw pl pc gv B) (hBX : ∀ x ∈ B, x ∈ X) : Met l yX4_remember (Cond.code yX4_remember cX4_remember 1 none :: TBL) { frames := 1, cells := 0, slots := 0, locals := 64 } (zPc [.ref b] g (lW g b a (nI T) (nI C) (nI U) (nI V) rd ro lw pl pc gv aw nt ++ X)) (zQv g (fun ws => ws = lW g b a (nI T) (nI C) (nI (uK U + 1)) (nI V) rd ro lw (plK lw pl U) (pcK pc U C) gv aw nt ++ X)) 0 0 (zA (gz g)) := by
  refine z_start (by decide +kernel) rfl (Nat.le_of_ble_eq_true rfl) ?_
  intro p e s m args below meth c ls hE hr hnm hB hl
  have hl : lv_has ls 1 [(0, .ref b)] := hl
  revert hB
  generalize s.heap = H
  generalize ([] : List Loc) = locs
  intro hB
  have hT6 := hn.T6
  have hC8 := hn.C8
  have hV8 := hn.V8
  have hU8 := hn.U8
  refine lv_aload_n hE.x hE.b dX4_remember_0 rfl (lv_at hl 0 rfl) ?_
  refine z_get (v := .int (nI U)) hE hB inX4 0 rfl rfl 2 (by decide) q1_39 (fun _ h9 => h9) rfl dX4_remember_1 ?_
  refine lv_bipush (v := (nI 8)) hE.x hE.b dX4_remember_4 rfl ?_
  refine z_lt (tgt := 46) (X := ((U : Nat) : Int)) (Y := (8 : Int)) hE dX4_remember_6 (by decide) (nI_toInt (n := U) (by omega)) rfl (fun c_1 => ?_) (fun c_1 => ?_)
  · refine lv_aload_n hE.x hE.b dX4_remember_46 rfl (lv_at hl 0 rfl) ?_
    refine z_get (v := .ref (a 2)) hE hB inX4 0 rfl rfl 6 (by decide) q1_45 (fun _ h9 => h9) rfl dX4_remember_47 ?_
    refine lv_iconst (v := nI 0) hE.x hE.b dX4_remember_50 rfl ?_
    refine lv_aload_n hE.x hE.b dX4_remember_51 rfl (lv_at hl 0 rfl) ?_
    refine z_get (v := .ref (a 3)) hE hB inX4 0 rfl rfl 7 (by decide) q1_46 (fun _ h9 => h9) rfl dX4_remember_52 ?_
    refine lv_aload_n hE.x hE.b dX4_remember_55 rfl (lv_at hl 0 rfl) ?_
    refine z_get (v := .int (nI U)) hE hB inX4 0 rfl rfl 2 (by decide) q1_39 (fun _ h9 => h9) rfl dX4_remember_56 ?_
    refine lv_bipush (v := (nI 8)) hE.x hE.b dX4_remember_59 rfl ?_
    refine z_imulN hE dX4_remember_61 ?_
    refine lv_bipush (v := (nI 8)) hE.x hE.b dX4_remember_62 rfl ?_
    refine z_qv hB (z_cS hE hB (c_X4_moveClauses_d l g (a 2) (a 3) 8 64 0 (U * 8) 8 3 4 lw pl (lW g b a (nI T) (nI C) (nI U) (nI V) rd ro lw pl pc gv aw nt ++ X) rfl rfl (by decide) (by omega) (by omega) (by decide) (bN_app (bN_in hrel.2.2.2.2.2.1 hBX))) q1_162 kX4_moveClauses ⟨rfl, rfl⟩ ⟨Nat.le_of_ble_eq_true rfl, Nat.le_of_ble_eq_true rfl⟩ rfl hl.1 rfl (Nat.le_of_ble_eq_true rfl) dX4_remember_64 ⟨Nat.le_of_ble_eq_true rfl, Nat.le_of_ble_eq_true rfl⟩) (fun w_3 H locs hw hB => ?_)
    have hw9 := hw
    have hw9 := hw9.symm
    subst hw9
    have hB : zB g s (lW g b a (nI T) (nI C) (nI U) (nI V) rd ro lw (va_cpy lw pl 0 (U * 8) 8) pc gv aw nt ++ X) H locs := hB
    refine lv_aload_n hE.x hE.b dX4_remember_67 rfl (lv_at hl 0 rfl) ?_
    refine z_get (v := .ref (a 4)) hE hB inX4 0 rfl rfl 8 (by decide) q1_47 (fun _ h9 => h9) rfl dX4_remember_68 ?_
    refine lv_aload_n hE.x hE.b dX4_remember_71 rfl (lv_at hl 0 rfl) ?_
    refine z_get (v := .int (nI U)) hE hB inX4 0 rfl rfl 2 (by decide) q1_39 (fun _ h9 => h9) rfl dX4_remember_72 ?_
    refine lv_aload_n hE.x hE.b dX4_remember_75 rfl (lv_at hl 0 rfl) ?_
    refine z_get (v := .int (nI C)) hE hB inX4 0 rfl rfl 1 (by decide) q1_36 (fun _ h9 => h9) rfl dX4_remember_76 ?_
    refine z_iast (k := U) (f := pc) (x := (nI C)) (ws' := lW g b a (nI T) (nI C) (nI U) (nI V) rd ro lw (va_cpy lw pl 0 (U * 8) 8) (upd pc U (nI C)) gv aw nt ++ X) hE hB 5 rfl (by omega) (by decide) rfl dX4_remember_79 (fun H locs hB => ?_)
    refine lv_aload_n hE.x hE.b dX4_remember_80 rfl (lv_at hl 0 rfl) ?_
    refine lv_dup hE.x hE.b dX4_remember_81 rfl ?_
    refine z_get (v := .int (nI U)) hE hB inX4 0 rfl rfl 2 (by decide) q1_39 (fun _ h9 => h9) rfl dX4_remember_82 ?_
    refine lv_iconst (v := nI 1) hE.x hE.b dX4_remember_85 rfl ?_
    refine z_iaddN hE dX4_remember_86 ?_
    refine z_put (v := .int (nI (U + 1))) (ty := .int) (ws' := lW g b a (nI T) (nI C) (nI (U + 1)) (nI V) rd ro lw (va_cpy lw pl 0 (U * 8) 8) (upd pc U (nI C)) gv aw nt ++ X) hE hB inX4 tyX4 tyX4_ok nmX4 0 rfl rfl 2 (by decide) q1_39 (fun _ h9 => h9) rfl (by decide +kernel) rfl rfl (Nat.le_of_ble_eq_true rfl) rfl dX4_remember_87 (fun H locs hB => ?_)
    exact z_vret (ws := lW g b a (nI T) (nI C) (nI (U + 1)) (nI V) rd ro lw (va_cpy lw pl 0 (U * 8) 8) (upd pc U (nI C)) gv aw nt ++ X) hE hB hr (by rw [remL (by omega), remP (by omega), remU (by omega)]) dX4_remember_90
  · refine lv_aload_n hE.x hE.b dX4_remember_9 rfl (lv_at hl 0 rfl) ?_
    refine z_get (v := .ref (a 3)) hE hB inX4 0 rfl rfl 7 (by decide) q1_46 (fun _ h9 => h9) rfl dX4_remember_10 ?_
    refine lv_bipush (v := (nI 8)) hE.x hE.b dX4_remember_13 rfl ?_
    refine lv_aload_n hE.x hE.b dX4_remember_15 rfl (lv_at hl 0 rfl) ?_
    refine z_get (v := .ref (a 3)) hE hB inX4 0 rfl rfl 7 (by decide) q1_46 (fun _ h9 => h9) rfl dX4_remember_16 ?_
    refine lv_iconst (v := nI 0) hE.x hE.b dX4_remember_19 rfl ?_
    refine lv_bipush (v := (nI 56)) hE.x hE.b dX4_remember_20 rfl ?_
    refine z_qv hB (z_cS hE hB (c_X4_moveClauses_s l g (a 3) 64 8 0 56 4 pl (lW g b a (nI T) (nI C) (nI U) (nI V) rd ro lw pl pc gv aw nt ++ X) rfl (by omega) (by omega) (by omega) (by decide) (bN_app (bN_in hrel.2.2.2.2.2.2 hBX))) q1_162 kX4_moveClauses ⟨rfl, rfl⟩ ⟨Nat.le_of_ble_eq_true rfl, Nat.le_of_ble_eq_true rfl⟩ rfl hl.1 rfl (Nat.le_of_ble_eq_true rfl) dX4_remember_22 ⟨Nat.le_of_ble_eq_true rfl, Nat.le_of_ble_eq_true rfl⟩) (fun w_5 H locs hw hB => ?_)
    have hw9 := hw
    have hw9 := hw9.symm
    subst hw9
    have hB : zB g s (lW g b a (nI T) (nI C) (nI U) (nI V) rd ro lw (va_cpy pl pl 8 0 56) pc gv aw nt ++ X) H locs := hB
    refine lv_aload_n hE.x hE.b dX4_remember_25 rfl (lv_at hl 0 rfl) ?_
    refine z_get (v := .ref (a 4)) hE hB inX4 0 rfl rfl 8 (by decide) q1_47 (fun _ h9 => h9) rfl dX4_remember_26 ?_
    refine lv_iconst (v := nI 1) hE.x hE.b dX4_remember_29 rfl ?_
    refine lv_aload_n hE.x hE.b dX4_remember_30 rfl (lv_at hl 0 rfl) ?_
    refine z_get (v := .ref (a 4)) hE hB inX4 0 rfl rfl 8 (by decide) q1_47 (fun _ h9 => h9) rfl dX4_remember_31 ?_
    refine lv_iconst (v := nI 0) hE.x hE.b dX4_remember_34 rfl ?_
    refine lv_bipush (v := (nI 7)) hE.x hE.b dX4_remember_35 rfl ?_
    refine z_copy (sp := 1) (dp := 0) (n := 7) (f := pc) (h := pc) (ws' := lW g b a (nI T) (nI C) (nI U) (nI V) rd ro lw (va_cpy pl pl 8 0 56) (va_cpy pc pc 1 0 7) gv aw nt ++ X) hE hB hl.1 q1_165 5 5 rfl rfl ⟨by decide, by decide⟩ (by omega) (by omega) (Nat.le_of_ble_eq_true rfl) (Nat.le_of_ble_eq_true rfl) rfl dX4_remember_37 (fun H locs hB => ?_)
    refine lv_aload_n hE.x hE.b dX4_remember_40 rfl (lv_at hl 0 rfl) ?_
    refine lv_bipush (v := (nI 7)) hE.x hE.b dX4_remember_41 rfl ?_
    refine z_put (v := .int (nI 7)) (ty := .int) (ws' := lW g b a (nI T) (nI C) (nI 7) (nI V) rd ro lw (va_cpy pl pl 8 0 56) (va_cpy pc pc 1 0 7) gv aw nt ++ X) hE hB inX4 tyX4 tyX4_ok nmX4 0 rfl rfl 2 (by decide) q1_39 (fun _ h9 => h9) rfl (by decide +kernel) rfl rfl (Nat.le_of_ble_eq_true rfl) rfl dX4_remember_43 (fun H locs hB => ?_)
    refine lv_aload_n hE.x hE.b dX4_remember_46 rfl (lv_at hl 0 rfl) ?_
    refine z_get (v := .ref (a 2)) hE hB inX4 0 rfl rfl 6 (by decide) q1_45 (fun _ h9 => h9) rfl dX4_remember_47 ?_
    refine lv_iconst (v := nI 0) hE.x hE.b dX4_remember_50 rfl ?_
    refine lv_aload_n hE.x hE.b dX4_remember_51 rfl (lv_at hl 0 rfl) ?_
    refine z_get (v := .ref (a 3)) hE hB inX4 0 rfl rfl 7 (by decide) q1_46 (fun _ h9 => h9) rfl dX4_remember_52 ?_
    refine lv_aload_n hE.x hE.b dX4_remember_55 rfl (lv_at hl 0 rfl) ?_
    refine z_get (v := .int (nI 7)) hE hB inX4 0 rfl rfl 2 (by decide) q1_39 (fun _ h9 => h9) rfl dX4_remember_56 ?_
    refine lv_bipush (v := (nI 8)) hE.x hE.b dX4_remember_59 rfl ?_
    refine z_imulN hE dX4_remember_61 ?_
    refine lv_bipush (v := (nI 8)) hE.x hE.b dX4_remember_62 rfl ?_
    refine z_qv hB (z_cS hE hB (c_X4_moveClauses_d l g (a 2) (a 3) 8 64 0 (7 * 8) 8 3 4 lw (va_cpy pl pl 8 0 56) (lW g b a (nI T) (nI C) (nI 7) (nI V) rd ro lw (va_cpy pl pl 8 0 56) (va_cpy pc pc 1 0 7) gv aw nt ++ X) rfl rfl (by decide) (by omega) (by omega) (by decide) (bN_app (bN_in hrel.2.2.2.2.2.1 hBX))) q1_162 kX4_moveClauses ⟨rfl, rfl⟩ ⟨Nat.le_of_ble_eq_true rfl, Nat.le_of_ble_eq_true rfl⟩ rfl hl.1 rfl (Nat.le_of_ble_eq_true rfl) dX4_remember_64 ⟨Nat.le_of_ble_eq_true rfl, Nat.le_of_ble_eq_true rfl⟩) (fun w_7 H locs hw hB => ?_)
    have hw9 := hw
    have hw9 := hw9.symm
    subst hw9
    have hB : zB g s (lW g b a (nI T) (nI C) (nI 7) (nI V) rd ro lw (va_cpy lw (va_cpy pl pl 8 0 56) 0 (7 * 8) 8) (va_cpy pc pc 1 0 7) gv aw nt ++ X) H locs := hB
    refine lv_aload_n hE.x hE.b dX4_remember_67 rfl (lv_at hl 0 rfl) ?_
    refine z_get (v := .ref (a 4)) hE hB inX4 0 rfl rfl 8 (by decide) q1_47 (fun _ h9 => h9) rfl dX4_remember_68 ?_
    refine lv_aload_n hE.x hE.b dX4_remember_71 rfl (lv_at hl 0 rfl) ?_
    refine z_get (v := .int (nI 7)) hE hB inX4 0 rfl rfl 2 (by decide) q1_39 (fun _ h9 => h9) rfl dX4_remember_72 ?_
    refine lv_aload_n hE.x hE.b dX4_remember_75 rfl (lv_at hl 0 rfl) ?_
    refine z_get (v := .int (nI C)) hE hB inX4 0 rfl rfl 1 (by decide) q1_36 (fun _ h9 => h9) rfl dX4_remember_76 ?_
    refine z_iast (k := 7) (f := (va_cpy pc pc 1 0 7)) (x := (nI C)) (ws' := lW g b a (nI T) (nI C) (nI 7) (nI V) rd ro lw (va_cpy lw (va_cpy pl pl 8 0 56) 0 (7 * 8) 8) (upd (va_cpy pc pc 1 0 7) 7 (nI C)) gv aw nt ++ X) hE hB 5 rfl (by omega) (by decide) rfl dX4_remember_79 (fun H locs hB => ?_)
    refine lv_aload_n hE.x hE.b dX4_remember_80 rfl (lv_at hl 0 rfl) ?_
    refine lv_dup hE.x hE.b dX4_remember_81 rfl ?_
    refine z_get (v := .int (nI 7)) hE hB inX4 0 rfl rfl 2 (by decide) q1_39 (fun _ h9 => h9) rfl dX4_remember_82 ?_
    refine lv_iconst (v := nI 1) hE.x hE.b dX4_remember_85 rfl ?_
    refine z_iaddN hE dX4_remember_86 ?_
    refine z_put (v := .int (nI (7 + 1))) (ty := .int) (ws' := lW g b a (nI T) (nI C) (nI (7 + 1)) (nI V) rd ro lw (va_cpy lw (va_cpy pl pl 8 0 56) 0 (7 * 8) 8) (upd (va_cpy pc pc 1 0 7) 7 (nI C)) gv aw nt ++ X) hE hB inX4 tyX4 tyX4_ok nmX4 0 rfl rfl 2 (by decide) q1_39 (fun _ h9 => h9) rfl (by decide +kernel) rfl rfl (Nat.le_of_ble_eq_true rfl) rfl dX4_remember_87 (fun H locs hB => ?_)
    exact z_vret (ws := lW g b a (nI T) (nI C) (nI (7 + 1)) (nI V) rd ro lw (va_cpy lw (va_cpy pl pl 8 0 56) 0 (7 * 8) 8) (upd (va_cpy pc pc 1 0 7) 7 (nI C)) gv aw nt ++ X) hE hB hr (by rw [remL8 (by omega), remP8 (by omega), remU8 (by omega)]) dX4_remember_90

set_option maxHeartbeats 4000000 in
set_option maxRecDepth 100000 in
theorem c_X4_goBack (l : Launch) (g : zG) (b : Nat) (a : Nat → Nat) (T : Nat) (C : Nat) (U : Nat) (V : Nat) (rd : Nat → Int32) (ro : Nat → Int32) (lw : Nat → Option Nat) (pl : Nat → Option Nat) (pc : Nat → Int32) (gv : Nat → Int32) (aw : Nat → Int32) (nt : Nat → Int32) (c1 : Nat) (n : Nat → Int32) (B : va_W) (X : va_W) (hn : nOK n T C V U) (hrel : relL n T C U V rd ro lw pl pc gv B) (hBX : ∀ x ∈ B, x ∈ X) (hU : 0 < U) (hc1 : pc (U - 1) = nI c1) : Met l yX4_goBack (Cond.code yX4_goBack cX4_goBack 1 none :: TBL) { frames := 1, cells := 0, slots := 0, locals := 25 } (zPc [.ref b] g (lW g b a (nI T) (nI C) (nI U) (nI V) rd ro lw pl pc gv aw nt ++ X)) (zQv g (fun ws => ws = lW g b a (nI T) (nI c1) (nI (U - 1)) (nI V) rd ro (va_cpy pl lw ((U - 1) * 8) 0 8) pl pc gv aw nt ++ X)) 0 0 (zA (gz g)) := by
  refine z_start (by decide +kernel) rfl (Nat.le_of_ble_eq_true rfl) ?_
  intro p e s m args below meth c ls hE hr hnm hB hl
  have hl : lv_has ls 1 [(0, .ref b)] := hl
  revert hB
  generalize s.heap = H
  generalize ([] : List Loc) = locs
  intro hB
  have hT6 := hn.T6
  have hC8 := hn.C8
  have hV8 := hn.V8
  have hU8 := hn.U8
  refine lv_aload_n hE.x hE.b dX4_goBack_0 rfl (lv_at hl 0 rfl) ?_
  refine lv_dup hE.x hE.b dX4_goBack_1 rfl ?_
  refine z_get (v := .int (nI U)) hE hB inX4 0 rfl rfl 2 (by decide) q1_39 (fun _ h9 => h9) rfl dX4_goBack_2 ?_
  refine lv_iconst (v := nI 1) hE.x hE.b dX4_goBack_5 rfl ?_
  refine z_isubN hE (by omega) dX4_goBack_6 ?_
  refine z_put (v := .int (nI (U - 1))) (ty := .int) (ws' := lW g b a (nI T) (nI C) (nI (U - 1)) (nI V) rd ro lw pl pc gv aw nt ++ X) hE hB inX4 tyX4 tyX4_ok nmX4 0 rfl rfl 2 (by decide) q1_39 (fun _ h9 => h9) rfl (by decide +kernel) rfl rfl (Nat.le_of_ble_eq_true rfl) rfl dX4_goBack_7 (fun H locs hB => ?_)
  refine lv_aload_n hE.x hE.b dX4_goBack_10 rfl (lv_at hl 0 rfl) ?_
  refine z_get (v := .ref (a 3)) hE hB inX4 0 rfl rfl 7 (by decide) q1_46 (fun _ h9 => h9) rfl dX4_goBack_11 ?_
  refine lv_aload_n hE.x hE.b dX4_goBack_14 rfl (lv_at hl 0 rfl) ?_
  refine z_get (v := .int (nI (U - 1))) hE hB inX4 0 rfl rfl 2 (by decide) q1_39 (fun _ h9 => h9) rfl dX4_goBack_15 ?_
  refine lv_bipush (v := (nI 8)) hE.x hE.b dX4_goBack_18 rfl ?_
  refine z_imulN hE dX4_goBack_20 ?_
  refine lv_aload_n hE.x hE.b dX4_goBack_21 rfl (lv_at hl 0 rfl) ?_
  refine z_get (v := .ref (a 2)) hE hB inX4 0 rfl rfl 6 (by decide) q1_45 (fun _ h9 => h9) rfl dX4_goBack_22 ?_
  refine lv_iconst (v := nI 0) hE.x hE.b dX4_goBack_25 rfl ?_
  refine lv_bipush (v := (nI 8)) hE.x hE.b dX4_goBack_26 rfl ?_
  refine z_qv hB (z_cS hE hB (c_X4_moveClauses_d l g (a 3) (a 2) 64 8 ((U - 1) * 8) 0 8 4 3 pl lw (lW g b a (nI T) (nI C) (nI (U - 1)) (nI V) rd ro lw pl pc gv aw nt ++ X) rfl rfl (by decide) (by omega) (by omega) (by decide) (bN_app (bN_in hrel.2.2.2.2.2.2 hBX))) q1_162 kX4_moveClauses ⟨rfl, rfl⟩ ⟨Nat.le_of_ble_eq_true rfl, Nat.le_of_ble_eq_true rfl⟩ rfl hl.1 rfl (Nat.le_of_ble_eq_true rfl) dX4_goBack_28 ⟨Nat.le_of_ble_eq_true rfl, Nat.le_of_ble_eq_true rfl⟩) (fun w_2 H locs hw hB => ?_)
  have hw9 := hw
  have hw9 := hw9.symm
  subst hw9
  have hB : zB g s (lW g b a (nI T) (nI C) (nI (U - 1)) (nI V) rd ro (va_cpy pl lw ((U - 1) * 8) 0 8) pl pc gv aw nt ++ X) H locs := hB
  refine lv_aload_n hE.x hE.b dX4_goBack_31 rfl (lv_at hl 0 rfl) ?_
  refine lv_aload_n hE.x hE.b dX4_goBack_32 rfl (lv_at hl 0 rfl) ?_
  refine z_get (v := .ref (a 4)) hE hB inX4 0 rfl rfl 8 (by decide) q1_47 (fun _ h9 => h9) rfl dX4_goBack_33 ?_
  refine lv_aload_n hE.x hE.b dX4_goBack_36 rfl (lv_at hl 0 rfl) ?_
  refine z_get (v := .int (nI (U - 1))) hE hB inX4 0 rfl rfl 2 (by decide) q1_39 (fun _ h9 => h9) rfl dX4_goBack_37 ?_
  refine z_iald (k := (U - 1)) (f := pc) hE hB 5 rfl (by omega) (by decide) dX4_goBack_40 ?_
  refine z_top (y := (nI c1)) hc1 ?_
  refine z_put (v := .int (nI c1)) (ty := .int) (ws' := lW g b a (nI T) (nI c1) (nI (U - 1)) (nI V) rd ro (va_cpy pl lw ((U - 1) * 8) 0 8) pl pc gv aw nt ++ X) hE hB inX4 tyX4 tyX4_ok nmX4 0 rfl rfl 1 (by decide) q1_36 (fun _ h9 => h9) rfl (by decide +kernel) rfl rfl (Nat.le_of_ble_eq_true rfl) rfl dX4_goBack_41 (fun H locs hB => ?_)
  exact z_vret (ws := lW g b a (nI T) (nI c1) (nI (U - 1)) (nI V) rd ro (va_cpy pl lw ((U - 1) * 8) 0 8) pl pc gv aw nt ++ X) hE hB hr (rfl) dX4_goBack_44

set_option maxHeartbeats 4000000 in
set_option maxRecDepth 100000 in
theorem c_X4_becomeLike (l : Launch) (g : zG) (b : Nat) (a : Nat → Nat) (T : Nat) (C : Nat) (U : Nat) (V : Nat) (rd : Nat → Int32) (ro : Nat → Int32) (lw : Nat → Option Nat) (pl : Nat → Option Nat) (pc : Nat → Int32) (gv : Nat → Int32) (aw : Nat → Int32) (nt : Nat → Int32) (b2 : Nat) (a2 : Nat → Nat) (T2 : Nat) (C2 : Nat) (U2 : Nat) (V2 : Nat) (rd2 : Nat → Int32) (ro2 : Nat → Int32) (lw2 : Nat → Option Nat) (pl2 : Nat → Option Nat) (pc2 : Nat → Int32) (gv2 : Nat → Int32) (aw2 : Nat → Int32) (nt2 : Nat → Int32) (n : Nat → Int32) (B : va_W) (X : va_W) (hn : nOK n T2 C2 V2 U2) (hrel : relL n T2 C2 U2 V2 rd2 ro2 lw2 pl2 pc2 gv2 B) (hBX : ∀ x ∈ B, x ∈ X) : Met l yX4_becomeLike (Cond.code yX4_becomeLike cX4_becomeLike 2 none :: TBL) { frames := 1, cells := 0, slots := 0, locals := 64 } (zPc [.ref b, .ref b2] g (lW g b a (nI T) (nI C) (nI U) (nI V) rd ro lw pl pc gv aw nt ++ (lW g b2 a2 (nI T2) (nI C2) (nI U2) (nI V2) rd2 ro2 lw2 pl2 pc2 gv2 aw2 nt2 ++ X))) (zQv g (fun ws => ws = lW g b a (nI T2) (nI C2) (nI U2) (nI V2) (va_cpy rd2 rd 0 0 6) (va_cpy ro2 ro 0 0 36) (va_cpy lw2 lw 0 0 8) (va_cpy pl2 pl 0 0 64) (va_cpy pc2 pc 0 0 8) (va_cpy gv2 gv 0 0 40) aw nt ++ (lW g b2 a2 (nI T2) (nI C2) (nI U2) (nI V2) rd2 ro2 lw2 pl2 pc2 gv2 aw2 nt2 ++ X))) 0 0 (zA (gz g)) := by
  refine z_start (by decide +kernel) rfl (Nat.le_of_ble_eq_true rfl) ?_
  intro p e s m args below meth c ls hE hr hnm hB hl
  have hl : lv_has ls 2 [(0, .ref b), (1, .ref b2)] := hl
  revert hB
  generalize s.heap = H
  generalize ([] : List Loc) = locs
  intro hB
  refine lv_aload_n hE.x hE.b dX4_becomeLike_0 rfl (lv_at hl 0 rfl) ?_
  refine lv_aload_n hE.x hE.b dX4_becomeLike_1 rfl (lv_at hl 1 rfl) ?_
  refine z_get (v := .int (nI T2)) hE hB inX4 9 rfl rfl 0 (by decide) q1_33 (fun _ h9 => h9) rfl dX4_becomeLike_2 ?_
  refine z_put (v := .int (nI T2)) (ty := .int) (ws' := lW g b a (nI T2) (nI C) (nI U) (nI V) rd ro lw pl pc gv aw nt ++ (lW g b2 a2 (nI T2) (nI C2) (nI U2) (nI V2) rd2 ro2 lw2 pl2 pc2 gv2 aw2 nt2 ++ X)) hE hB inX4 tyX4 tyX4_ok nmX4 0 rfl rfl 0 (by decide) q1_33 (fun _ h9 => h9) rfl (by decide +kernel) rfl rfl (Nat.le_of_ble_eq_true rfl) rfl dX4_becomeLike_5 (fun H locs hB => ?_)
  refine lv_aload_n hE.x hE.b dX4_becomeLike_8 rfl (lv_at hl 0 rfl) ?_
  refine lv_aload_n hE.x hE.b dX4_becomeLike_9 rfl (lv_at hl 1 rfl) ?_
  refine z_get (v := .int (nI C2)) hE hB inX4 9 rfl rfl 1 (by decide) q1_36 (fun _ h9 => h9) rfl dX4_becomeLike_10 ?_
  refine z_put (v := .int (nI C2)) (ty := .int) (ws' := lW g b a (nI T2) (nI C2) (nI U) (nI V) rd ro lw pl pc gv aw nt ++ (lW g b2 a2 (nI T2) (nI C2) (nI U2) (nI V2) rd2 ro2 lw2 pl2 pc2 gv2 aw2 nt2 ++ X)) hE hB inX4 tyX4 tyX4_ok nmX4 0 rfl rfl 1 (by decide) q1_36 (fun _ h9 => h9) rfl (by decide +kernel) rfl rfl (Nat.le_of_ble_eq_true rfl) rfl dX4_becomeLike_13 (fun H locs hB => ?_)
  refine lv_aload_n hE.x hE.b dX4_becomeLike_16 rfl (lv_at hl 0 rfl) ?_
  refine lv_aload_n hE.x hE.b dX4_becomeLike_17 rfl (lv_at hl 1 rfl) ?_
  refine z_get (v := .int (nI U2)) hE hB inX4 9 rfl rfl 2 (by decide) q1_39 (fun _ h9 => h9) rfl dX4_becomeLike_18 ?_
  refine z_put (v := .int (nI U2)) (ty := .int) (ws' := lW g b a (nI T2) (nI C2) (nI U2) (nI V) rd ro lw pl pc gv aw nt ++ (lW g b2 a2 (nI T2) (nI C2) (nI U2) (nI V2) rd2 ro2 lw2 pl2 pc2 gv2 aw2 nt2 ++ X)) hE hB inX4 tyX4 tyX4_ok nmX4 0 rfl rfl 2 (by decide) q1_39 (fun _ h9 => h9) rfl (by decide +kernel) rfl rfl (Nat.le_of_ble_eq_true rfl) rfl dX4_becomeLike_21 (fun H locs hB => ?_)
  refine lv_aload_n hE.x hE.b dX4_becomeLike_24 rfl (lv_at hl 0 rfl) ?_
  refine lv_aload_n hE.x hE.b dX4_becomeLike_25 rfl (lv_at hl 1 rfl) ?_
  refine z_get (v := .int (nI V2)) hE hB inX4 9 rfl rfl 3 (by decide) q1_41 (fun _ h9 => h9) rfl dX4_becomeLike_26 ?_
  refine z_put (v := .int (nI V2)) (ty := .int) (ws' := lW g b a (nI T2) (nI C2) (nI U2) (nI V2) rd ro lw pl pc gv aw nt ++ (lW g b2 a2 (nI T2) (nI C2) (nI U2) (nI V2) rd2 ro2 lw2 pl2 pc2 gv2 aw2 nt2 ++ X)) hE hB inX4 tyX4 tyX4_ok nmX4 0 rfl rfl 3 (by decide) q1_41 (fun _ h9 => h9) rfl (by decide +kernel) rfl rfl (Nat.le_of_ble_eq_true rfl) rfl dX4_becomeLike_29 (fun H locs hB => ?_)
  refine lv_aload_n hE.x hE.b dX4_becomeLike_32 rfl (lv_at hl 1 rfl) ?_
  refine z_get (v := .ref (a2 0)) hE hB inX4 9 rfl rfl 4 (by decide) q1_43 (fun _ h9 => h9) rfl dX4_becomeLike_33 ?_
  refine lv_iconst (v := nI 0) hE.x hE.b dX4_becomeLike_36 rfl ?_
  refine lv_aload_n hE.x hE.b dX4_becomeLike_37 rfl (lv_at hl 0 rfl) ?_
  refine z_get (v := .ref (a 0)) hE hB inX4 0 rfl rfl 4 (by decide) q1_43 (fun _ h9 => h9) rfl dX4_becomeLike_38 ?_
  refine lv_iconst (v := nI 0) hE.x hE.b dX4_becomeLike_41 rfl ?_
  refine lv_aload_n hE.x hE.b dX4_becomeLike_42 rfl (lv_at hl 0 rfl) ?_
  refine z_get (v := .ref (a 0)) hE hB inX4 0 rfl rfl 4 (by decide) q1_43 (fun _ h9 => h9) rfl dX4_becomeLike_43 ?_
  refine z_alen (n := 6) hE hB 1 1 rfl rfl rfl dX4_becomeLike_46 ?_
  refine z_copy (sp := 0) (dp := 0) (n := 6) (f := rd2) (h := rd) (ws' := lW g b a (nI T2) (nI C2) (nI U2) (nI V2) (va_cpy rd2 rd 0 0 6) ro lw pl pc gv aw nt ++ (lW g b2 a2 (nI T2) (nI C2) (nI U2) (nI V2) rd2 ro2 lw2 pl2 pc2 gv2 aw2 nt2 ++ X)) hE hB hl.1 q1_165 10 1 rfl rfl ⟨by decide, by decide⟩ (by omega) (by omega) (Nat.le_of_ble_eq_true rfl) (Nat.le_of_ble_eq_true rfl) rfl dX4_becomeLike_47 (fun H locs hB => ?_)
  refine lv_aload_n hE.x hE.b dX4_becomeLike_50 rfl (lv_at hl 1 rfl) ?_
  refine z_get (v := .ref (a2 1)) hE hB inX4 9 rfl rfl 5 (by decide) q1_44 (fun _ h9 => h9) rfl dX4_becomeLike_51 ?_
  refine lv_iconst (v := nI 0) hE.x hE.b dX4_becomeLike_54 rfl ?_
  refine lv_aload_n hE.x hE.b dX4_becomeLike_55 rfl (lv_at hl 0 rfl) ?_
  refine z_get (v := .ref (a 1)) hE hB inX4 0 rfl rfl 5 (by decide) q1_44 (fun _ h9 => h9) rfl dX4_becomeLike_56 ?_
  refine lv_iconst (v := nI 0) hE.x hE.b dX4_becomeLike_59 rfl ?_
  refine lv_aload_n hE.x hE.b dX4_becomeLike_60 rfl (lv_at hl 0 rfl) ?_
  refine z_get (v := .ref (a 1)) hE hB inX4 0 rfl rfl 5 (by decide) q1_44 (fun _ h9 => h9) rfl dX4_becomeLike_61 ?_
  refine z_alen (n := 36) hE hB 2 1 rfl rfl rfl dX4_becomeLike_64 ?_
  refine z_copy (sp := 0) (dp := 0) (n := 36) (f := ro2) (h := ro) (ws' := lW g b a (nI T2) (nI C2) (nI U2) (nI V2) (va_cpy rd2 rd 0 0 6) (va_cpy ro2 ro 0 0 36) lw pl pc gv aw nt ++ (lW g b2 a2 (nI T2) (nI C2) (nI U2) (nI V2) rd2 ro2 lw2 pl2 pc2 gv2 aw2 nt2 ++ X)) hE hB hl.1 q1_165 11 2 rfl rfl ⟨by decide, by decide⟩ (by omega) (by omega) (Nat.le_of_ble_eq_true rfl) (Nat.le_of_ble_eq_true rfl) rfl dX4_becomeLike_65 (fun H locs hB => ?_)
  refine lv_aload_n hE.x hE.b dX4_becomeLike_68 rfl (lv_at hl 1 rfl) ?_
  refine z_get (v := .ref (a2 2)) hE hB inX4 9 rfl rfl 6 (by decide) q1_45 (fun _ h9 => h9) rfl dX4_becomeLike_69 ?_
  refine lv_iconst (v := nI 0) hE.x hE.b dX4_becomeLike_72 rfl ?_
  refine lv_aload_n hE.x hE.b dX4_becomeLike_73 rfl (lv_at hl 0 rfl) ?_
  refine z_get (v := .ref (a 2)) hE hB inX4 0 rfl rfl 6 (by decide) q1_45 (fun _ h9 => h9) rfl dX4_becomeLike_74 ?_
  refine lv_iconst (v := nI 0) hE.x hE.b dX4_becomeLike_77 rfl ?_
  refine lv_aload_n hE.x hE.b dX4_becomeLike_78 rfl (lv_at hl 0 rfl) ?_
  refine z_get (v := .ref (a 2)) hE hB inX4 0 rfl rfl 6 (by decide) q1_45 (fun _ h9 => h9) rfl dX4_becomeLike_79 ?_
  refine z_alen (n := 8) hE hB 3 3 rfl rfl rfl dX4_becomeLike_82 ?_
  refine z_qv hB (z_cS hE hB (c_X4_moveClauses_d l g (a2 2) (a 2) 8 8 0 0 8 12 3 lw2 lw (lW g b a (nI T2) (nI C2) (nI U2) (nI V2) (va_cpy rd2 rd 0 0 6) (va_cpy ro2 ro 0 0 36) lw pl pc gv aw nt ++ (lW g b2 a2 (nI T2) (nI C2) (nI U2) (nI V2) rd2 ro2 lw2 pl2 pc2 gv2 aw2 nt2 ++ X)) rfl rfl (by decide) (by omega) (by omega) (by decide) (bN_app (bN_app (bN_in hrel.2.2.2.2.2.1 hBX)))) q1_162 kX4_moveClauses ⟨rfl, rfl⟩ ⟨Nat.le_of_ble_eq_true rfl, Nat.le_of_ble_eq_true rfl⟩ rfl hl.1 rfl (Nat.le_of_ble_eq_true rfl) dX4_becomeLike_83 ⟨Nat.le_of_ble_eq_true rfl, Nat.le_of_ble_eq_true rfl⟩) (fun w_2 H locs hw hB => ?_)
  have hw9 := hw
  have hw9 := hw9.symm
  subst hw9
  have hB : zB g s (lW g b a (nI T2) (nI C2) (nI U2) (nI V2) (va_cpy rd2 rd 0 0 6) (va_cpy ro2 ro 0 0 36) (va_cpy lw2 lw 0 0 8) pl pc gv aw nt ++ (lW g b2 a2 (nI T2) (nI C2) (nI U2) (nI V2) rd2 ro2 lw2 pl2 pc2 gv2 aw2 nt2 ++ X)) H locs := hB
  refine lv_aload_n hE.x hE.b dX4_becomeLike_86 rfl (lv_at hl 1 rfl) ?_
  refine z_get (v := .ref (a2 3)) hE hB inX4 9 rfl rfl 7 (by decide) q1_46 (fun _ h9 => h9) rfl dX4_becomeLike_87 ?_
  refine lv_iconst (v := nI 0) hE.x hE.b dX4_becomeLike_90 rfl ?_
  refine lv_aload_n hE.x hE.b dX4_becomeLike_91 rfl (lv_at hl 0 rfl) ?_
  refine z_get (v := .ref (a 3)) hE hB inX4 0 rfl rfl 7 (by decide) q1_46 (fun _ h9 => h9) rfl dX4_becomeLike_92 ?_
  refine lv_iconst (v := nI 0) hE.x hE.b dX4_becomeLike_95 rfl ?_
  refine lv_aload_n hE.x hE.b dX4_becomeLike_96 rfl (lv_at hl 0 rfl) ?_
  refine z_get (v := .ref (a 3)) hE hB inX4 0 rfl rfl 7 (by decide) q1_46 (fun _ h9 => h9) rfl dX4_becomeLike_97 ?_
  refine z_alen (n := 64) hE hB 4 3 rfl rfl rfl dX4_becomeLike_100 ?_
  refine z_qv hB (z_cS hE hB (c_X4_moveClauses_d l g (a2 3) (a 3) 64 64 0 0 64 13 4 pl2 pl (lW g b a (nI T2) (nI C2) (nI U2) (nI V2) (va_cpy rd2 rd 0 0 6) (va_cpy ro2 ro 0 0 36) (va_cpy lw2 lw 0 0 8) pl pc gv aw nt ++ (lW g b2 a2 (nI T2) (nI C2) (nI U2) (nI V2) rd2 ro2 lw2 pl2 pc2 gv2 aw2 nt2 ++ X)) rfl rfl (by decide) (by omega) (by omega) (by decide) (bN_app (bN_app (bN_in hrel.2.2.2.2.2.2 hBX)))) q1_162 kX4_moveClauses ⟨rfl, rfl⟩ ⟨Nat.le_of_ble_eq_true rfl, Nat.le_of_ble_eq_true rfl⟩ rfl hl.1 rfl (Nat.le_of_ble_eq_true rfl) dX4_becomeLike_101 ⟨Nat.le_of_ble_eq_true rfl, Nat.le_of_ble_eq_true rfl⟩) (fun w_4 H locs hw hB => ?_)
  have hw9 := hw
  have hw9 := hw9.symm
  subst hw9
  have hB : zB g s (lW g b a (nI T2) (nI C2) (nI U2) (nI V2) (va_cpy rd2 rd 0 0 6) (va_cpy ro2 ro 0 0 36) (va_cpy lw2 lw 0 0 8) (va_cpy pl2 pl 0 0 64) pc gv aw nt ++ (lW g b2 a2 (nI T2) (nI C2) (nI U2) (nI V2) rd2 ro2 lw2 pl2 pc2 gv2 aw2 nt2 ++ X)) H locs := hB
  refine lv_aload_n hE.x hE.b dX4_becomeLike_104 rfl (lv_at hl 1 rfl) ?_
  refine z_get (v := .ref (a2 4)) hE hB inX4 9 rfl rfl 8 (by decide) q1_47 (fun _ h9 => h9) rfl dX4_becomeLike_105 ?_
  refine lv_iconst (v := nI 0) hE.x hE.b dX4_becomeLike_108 rfl ?_
  refine lv_aload_n hE.x hE.b dX4_becomeLike_109 rfl (lv_at hl 0 rfl) ?_
  refine z_get (v := .ref (a 4)) hE hB inX4 0 rfl rfl 8 (by decide) q1_47 (fun _ h9 => h9) rfl dX4_becomeLike_110 ?_
  refine lv_iconst (v := nI 0) hE.x hE.b dX4_becomeLike_113 rfl ?_
  refine lv_aload_n hE.x hE.b dX4_becomeLike_114 rfl (lv_at hl 0 rfl) ?_
  refine z_get (v := .ref (a 4)) hE hB inX4 0 rfl rfl 8 (by decide) q1_47 (fun _ h9 => h9) rfl dX4_becomeLike_115 ?_
  refine z_alen (n := 8) hE hB 5 1 rfl rfl rfl dX4_becomeLike_118 ?_
  refine z_copy (sp := 0) (dp := 0) (n := 8) (f := pc2) (h := pc) (ws' := lW g b a (nI T2) (nI C2) (nI U2) (nI V2) (va_cpy rd2 rd 0 0 6) (va_cpy ro2 ro 0 0 36) (va_cpy lw2 lw 0 0 8) (va_cpy pl2 pl 0 0 64) (va_cpy pc2 pc 0 0 8) gv aw nt ++ (lW g b2 a2 (nI T2) (nI C2) (nI U2) (nI V2) rd2 ro2 lw2 pl2 pc2 gv2 aw2 nt2 ++ X)) hE hB hl.1 q1_165 14 5 rfl rfl ⟨by decide, by decide⟩ (by omega) (by omega) (Nat.le_of_ble_eq_true rfl) (Nat.le_of_ble_eq_true rfl) rfl dX4_becomeLike_119 (fun H locs hB => ?_)
  refine lv_aload_n hE.x hE.b dX4_becomeLike_122 rfl (lv_at hl 1 rfl) ?_
  refine z_get (v := .ref (a2 5)) hE hB inX4 9 rfl rfl 9 (by decide) q1_48 (fun _ h9 => h9) rfl dX4_becomeLike_123 ?_
  refine lv_iconst (v := nI 0) hE.x hE.b dX4_becomeLike_126 rfl ?_
  refine lv_aload_n hE.x hE.b dX4_becomeLike_127 rfl (lv_at hl 0 rfl) ?_
  refine z_get (v := .ref (a 5)) hE hB inX4 0 rfl rfl 9 (by decide) q1_48 (fun _ h9 => h9) rfl dX4_becomeLike_128 ?_
  refine lv_iconst (v := nI 0) hE.x hE.b dX4_becomeLike_131 rfl ?_
  refine lv_aload_n hE.x hE.b dX4_becomeLike_132 rfl (lv_at hl 0 rfl) ?_
  refine z_get (v := .ref (a 5)) hE hB inX4 0 rfl rfl 9 (by decide) q1_48 (fun _ h9 => h9) rfl dX4_becomeLike_133 ?_
  refine z_alen (n := 40) hE hB 6 1 rfl rfl rfl dX4_becomeLike_136 ?_
  refine z_copy (sp := 0) (dp := 0) (n := 40) (f := gv2) (h := gv) (ws' := lW g b a (nI T2) (nI C2) (nI U2) (nI V2) (va_cpy rd2 rd 0 0 6) (va_cpy ro2 ro 0 0 36) (va_cpy lw2 lw 0 0 8) (va_cpy pl2 pl 0 0 64) (va_cpy pc2 pc 0 0 8) (va_cpy gv2 gv 0 0 40) aw nt ++ (lW g b2 a2 (nI T2) (nI C2) (nI U2) (nI V2) rd2 ro2 lw2 pl2 pc2 gv2 aw2 nt2 ++ X)) hE hB hl.1 q1_165 15 6 rfl rfl ⟨by decide, by decide⟩ (by omega) (by omega) (Nat.le_of_ble_eq_true rfl) (Nat.le_of_ble_eq_true rfl) rfl dX4_becomeLike_137 (fun H locs hB => ?_)
  exact z_vret (ws := lW g b a (nI T2) (nI C2) (nI U2) (nI V2) (va_cpy rd2 rd 0 0 6) (va_cpy ro2 ro 0 0 36) (va_cpy lw2 lw 0 0 8) (va_cpy pl2 pl 0 0 64) (va_cpy pc2 pc 0 0 8) (va_cpy gv2 gv 0 0 40) aw nt ++ (lW g b2 a2 (nI T2) (nI C2) (nI U2) (nI V2) rd2 ro2 lw2 pl2 pc2 gv2 aw2 nt2 ++ X)) hE hB hr (rfl) dX4_becomeLike_140

set_option maxHeartbeats 4000000 in
set_option maxRecDepth 100000 in
theorem c_X4_init (l : Launch) (g : zG) (b : Nat) (X : va_W)  : Met l yX4_init (Cond.code yX4_init cX4_init 1 none :: TBL) { frames := 1, cells := 8, slots := 204, locals := 12 } (zPc [.ref b] g ([(b, .inr (4, [.int 0, .int 0, .int 0, .int 0, .null, .null, .null, .null, .null, .null, .null, .null]))] ++ X)) (zQv g (fun ws => ∃ (a : Nat → Nat), ws = lW g b a (nI 0) (nI 0) (nI 0) (nI 0) (fun _ => 0) (fun _ => 0) (fun _ => none) (fun _ => none) (fun _ => 0) (fun _ => 0) (fun _ => 0) (fun _ => 0) ++ X)) 8 204 (zA (gz g)) := by
  refine z_start (by decide +kernel) rfl (Nat.le_of_ble_eq_true rfl) ?_
  intro p e s m args below meth c ls hE hr hnm hB hl
  have hl : lv_has ls 1 [(0, .ref b)] := hl
  revert hB
  generalize s.heap = H
  generalize ([] : List Loc) = locs
  intro hB
  refine lv_aload_n hE.x hE.b dX4_init_0 rfl (lv_at hl 0 rfl) ?_
  refine W.objInit hE.x hE.b hE.o (hE.t _ q1_30) (hE.t _ q1_23) (hE.t _ q1_24) rfl (by rw [hE.ml]; exact hl.1) rfl dX4_init_1 (Nat.le_of_ble_eq_true rfl) (Nat.le_of_ble_eq_true rfl) ?_
  refine W.eq (g2 := F0 m 4 ls []) rfl ?_
  refine lv_aload_n hE.x hE.b dX4_init_4 rfl (lv_at hl 0 rfl) ?_
  refine lv_bipush (v := (nI 6)) hE.x hE.b dX4_init_5 rfl ?_
  refine z_newI hE hB q1_77 (by decide) (Nat.le_of_ble_eq_true rfl) (Nat.le_of_ble_eq_true rfl) dX4_init_7 (fun q_1 H hB => ?_)
  refine z_putF (v := .ref q_1) (ty := (.array .int)) (ws' := [(q_1, .inl (gI g, 6, .inl (fun _ => 0)))] ++ ([(b, .inr (4, [.int 0, .int 0, .int 0, .int 0, .ref q_1, .null, .null, .null, .null, .null, .null, .null]))] ++ X)) hE hB inX4 tyX4 tyX4_ok nmX4 1 rfl rfl 4 (by decide) q1_43 (fun _ h9 => h9) rfl hnm rfl (by decide +kernel) rfl rfl (Nat.le_of_ble_eq_true rfl) rfl dX4_init_9 (fun H locs hB => ?_)
  refine lv_aload_n hE.x hE.b dX4_init_12 rfl (lv_at hl 0 rfl) ?_
  refine lv_bipush (v := (nI 36)) hE.x hE.b dX4_init_13 rfl ?_
  refine z_newI hE hB q1_77 (by decide) (Nat.le_of_ble_eq_true rfl) (Nat.le_of_ble_eq_true rfl) dX4_init_15 (fun q_2 H hB => ?_)
  refine z_putF (v := .ref q_2) (ty := (.array .int)) (ws' := [(q_2, .inl (gI g, 36, .inl (fun _ => 0)))] ++ ([(q_1, .inl (gI g, 6, .inl (fun _ => 0)))] ++ ([(b, .inr (4, [.int 0, .int 0, .int 0, .int 0, .ref q_1, .ref q_2, .null, .null, .null, .null, .null, .null]))] ++ X))) hE hB inX4 tyX4 tyX4_ok nmX4 2 rfl rfl 5 (by decide) q1_44 (fun _ h9 => h9) rfl hnm rfl (by decide +kernel) rfl rfl (Nat.le_of_ble_eq_true rfl) rfl dX4_init_17 (fun H locs hB => ?_)
  refine lv_aload_n hE.x hE.b dX4_init_20 rfl (lv_at hl 0 rfl) ?_
  refine lv_bipush (v := (nI 8)) hE.x hE.b dX4_init_21 rfl ?_
  refine z_newN hE hB q1_31 (by decide) (Nat.le_of_ble_eq_true rfl) (Nat.le_of_ble_eq_true rfl) dX4_init_23 (fun q_3 H hB => ?_)
  refine z_putF (v := .ref q_3) (ty := (.array (.object "BanLand$Ban"))) (ws' := [(q_3, .inl (gN g, 8, .inr (.inr (.inr (.inr (fun _ => none))))))] ++ ([(q_2, .inl (gI g, 36, .inl (fun _ => 0)))] ++ ([(q_1, .inl (gI g, 6, .inl (fun _ => 0)))] ++ ([(b, .inr (4, [.int 0, .int 0, .int 0, .int 0, .ref q_1, .ref q_2, .ref q_3, .null, .null, .null, .null, .null]))] ++ X)))) hE hB inX4 tyX4 tyX4_ok nmX4 3 rfl rfl 6 (by decide) q1_45 (fun _ h9 => h9) rfl hnm rfl (by decide +kernel) rfl rfl (Nat.le_of_ble_eq_true rfl) rfl dX4_init_26 (fun H locs hB => ?_)
  refine lv_aload_n hE.x hE.b dX4_init_29 rfl (lv_at hl 0 rfl) ?_
  refine lv_bipush (v := (nI 64)) hE.x hE.b dX4_init_30 rfl ?_
  refine z_newN hE hB q1_31 (by decide) (Nat.le_of_ble_eq_true rfl) (Nat.le_of_ble_eq_true rfl) dX4_init_32 (fun q_4 H hB => ?_)
  refine z_putF (v := .ref q_4) (ty := (.array (.object "BanLand$Ban"))) (ws' := [(q_4, .inl (gN g, 64, .inr (.inr (.inr (.inr (fun _ => none))))))] ++ ([(q_3, .inl (gN g, 8, .inr (.inr (.inr (.inr (fun _ => none))))))] ++ ([(q_2, .inl (gI g, 36, .inl (fun _ => 0)))] ++ ([(q_1, .inl (gI g, 6, .inl (fun _ => 0)))] ++ ([(b, .inr (4, [.int 0, .int 0, .int 0, .int 0, .ref q_1, .ref q_2, .ref q_3, .ref q_4, .null, .null, .null, .null]))] ++ X))))) hE hB inX4 tyX4 tyX4_ok nmX4 4 rfl rfl 7 (by decide) q1_46 (fun _ h9 => h9) rfl hnm rfl (by decide +kernel) rfl rfl (Nat.le_of_ble_eq_true rfl) rfl dX4_init_35 (fun H locs hB => ?_)
  refine lv_aload_n hE.x hE.b dX4_init_38 rfl (lv_at hl 0 rfl) ?_
  refine lv_bipush (v := (nI 8)) hE.x hE.b dX4_init_39 rfl ?_
  refine z_newI hE hB q1_77 (by decide) (Nat.le_of_ble_eq_true rfl) (Nat.le_of_ble_eq_true rfl) dX4_init_41 (fun q_5 H hB => ?_)
  refine z_putF (v := .ref q_5) (ty := (.array .int)) (ws' := [(q_5, .inl (gI g, 8, .inl (fun _ => 0)))] ++ ([(q_4, .inl (gN g, 64, .inr (.inr (.inr (.inr (fun _ => none))))))] ++ ([(q_3, .inl (gN g, 8, .inr (.inr (.inr (.inr (fun _ => none))))))] ++ ([(q_2, .inl (gI g, 36, .inl (fun _ => 0)))] ++ ([(q_1, .inl (gI g, 6, .inl (fun _ => 0)))] ++ ([(b, .inr (4, [.int 0, .int 0, .int 0, .int 0, .ref q_1, .ref q_2, .ref q_3, .ref q_4, .ref q_5, .null, .null, .null]))] ++ X)))))) hE hB inX4 tyX4 tyX4_ok nmX4 5 rfl rfl 8 (by decide) q1_47 (fun _ h9 => h9) rfl hnm rfl (by decide +kernel) rfl rfl (Nat.le_of_ble_eq_true rfl) rfl dX4_init_43 (fun H locs hB => ?_)
  refine lv_aload_n hE.x hE.b dX4_init_46 rfl (lv_at hl 0 rfl) ?_
  refine lv_bipush (v := (nI 40)) hE.x hE.b dX4_init_47 rfl ?_
  refine z_newI hE hB q1_77 (by decide) (Nat.le_of_ble_eq_true rfl) (Nat.le_of_ble_eq_true rfl) dX4_init_49 (fun q_6 H hB => ?_)
  refine z_putF (v := .ref q_6) (ty := (.array .int)) (ws' := [(q_6, .inl (gI g, 40, .inl (fun _ => 0)))] ++ ([(q_5, .inl (gI g, 8, .inl (fun _ => 0)))] ++ ([(q_4, .inl (gN g, 64, .inr (.inr (.inr (.inr (fun _ => none))))))] ++ ([(q_3, .inl (gN g, 8, .inr (.inr (.inr (.inr (fun _ => none))))))] ++ ([(q_2, .inl (gI g, 36, .inl (fun _ => 0)))] ++ ([(q_1, .inl (gI g, 6, .inl (fun _ => 0)))] ++ ([(b, .inr (4, [.int 0, .int 0, .int 0, .int 0, .ref q_1, .ref q_2, .ref q_3, .ref q_4, .ref q_5, .ref q_6, .null, .null]))] ++ X))))))) hE hB inX4 tyX4 tyX4_ok nmX4 6 rfl rfl 9 (by decide) q1_48 (fun _ h9 => h9) rfl hnm rfl (by decide +kernel) rfl rfl (Nat.le_of_ble_eq_true rfl) rfl dX4_init_51 (fun H locs hB => ?_)
  refine lv_aload_n hE.x hE.b dX4_init_54 rfl (lv_at hl 0 rfl) ?_
  refine lv_bipush (v := (nI 6)) hE.x hE.b dX4_init_55 rfl ?_
  refine z_newI hE hB q1_77 (by decide) (Nat.le_of_ble_eq_true rfl) (Nat.le_of_ble_eq_true rfl) dX4_init_57 (fun q_7 H hB => ?_)
  refine z_putF (v := .ref q_7) (ty := (.array .int)) (ws' := [(q_7, .inl (gI g, 6, .inl (fun _ => 0)))] ++ ([(q_6, .inl (gI g, 40, .inl (fun _ => 0)))] ++ ([(q_5, .inl (gI g, 8, .inl (fun _ => 0)))] ++ ([(q_4, .inl (gN g, 64, .inr (.inr (.inr (.inr (fun _ => none))))))] ++ ([(q_3, .inl (gN g, 8, .inr (.inr (.inr (.inr (fun _ => none))))))] ++ ([(q_2, .inl (gI g, 36, .inl (fun _ => 0)))] ++ ([(q_1, .inl (gI g, 6, .inl (fun _ => 0)))] ++ ([(b, .inr (4, [.int 0, .int 0, .int 0, .int 0, .ref q_1, .ref q_2, .ref q_3, .ref q_4, .ref q_5, .ref q_6, .ref q_7, .null]))] ++ X)))))))) hE hB inX4 tyX4 tyX4_ok nmX4 7 rfl rfl 10 (by decide) q1_49 (fun _ h9 => h9) rfl hnm rfl (by decide +kernel) rfl rfl (Nat.le_of_ble_eq_true rfl) rfl dX4_init_59 (fun H locs hB => ?_)
  refine lv_aload_n hE.x hE.b dX4_init_62 rfl (lv_at hl 0 rfl) ?_
  refine lv_bipush (v := (nI 36)) hE.x hE.b dX4_init_63 rfl ?_
  refine z_newI hE hB q1_77 (by decide) (Nat.le_of_ble_eq_true rfl) (Nat.le_of_ble_eq_true rfl) dX4_init_65 (fun q_8 H hB => ?_)
  refine z_putF (v := .ref q_8) (ty := (.array .int)) (ws' := [(q_8, .inl (gI g, 36, .inl (fun _ => 0)))] ++ ([(q_7, .inl (gI g, 6, .inl (fun _ => 0)))] ++ ([(q_6, .inl (gI g, 40, .inl (fun _ => 0)))] ++ ([(q_5, .inl (gI g, 8, .inl (fun _ => 0)))] ++ ([(q_4, .inl (gN g, 64, .inr (.inr (.inr (.inr (fun _ => none))))))] ++ ([(q_3, .inl (gN g, 8, .inr (.inr (.inr (.inr (fun _ => none))))))] ++ ([(q_2, .inl (gI g, 36, .inl (fun _ => 0)))] ++ ([(q_1, .inl (gI g, 6, .inl (fun _ => 0)))] ++ ([(b, .inr (4, [.int 0, .int 0, .int 0, .int 0, .ref q_1, .ref q_2, .ref q_3, .ref q_4, .ref q_5, .ref q_6, .ref q_7, .ref q_8]))] ++ X))))))))) hE hB inX4 tyX4 tyX4_ok nmX4 8 rfl rfl 11 (by decide) q1_51 (fun _ h9 => h9) rfl hnm rfl (by decide +kernel) rfl rfl (Nat.le_of_ble_eq_true rfl) rfl dX4_init_67 (fun H locs hB => ?_)
  have hB : zB g s (lW g b (fun k => [q_1, q_2, q_3, q_4, q_5, q_6, q_7, q_8].getD k 0) (nI 0) (nI 0) (nI 0) (nI 0) (fun _ => 0) (fun _ => 0) (fun _ => none) (fun _ => none) (fun _ => 0) (fun _ => 0) (fun _ => 0) (fun _ => 0) ++ X) H locs := zB_perm hB ((List.reverse_perm (lW g b (fun k => [q_1, q_2, q_3, q_4, q_5, q_6, q_7, q_8].getD k 0) (nI 0) (nI 0) (nI 0) (nI 0) (fun _ => 0) (fun _ => 0) (fun _ => none) (fun _ => none) (fun _ => 0) (fun _ => 0) (fun _ => 0) (fun _ => 0))).append_right X)
  exact z_vret (ws := lW g b (fun k => [q_1, q_2, q_3, q_4, q_5, q_6, q_7, q_8].getD k 0) (nI 0) (nI 0) (nI 0) (nI 0) (fun _ => 0) (fun _ => 0) (fun _ => none) (fun _ => none) (fun _ => 0) (fun _ => 0) (fun _ => 0) (fun _ => 0) ++ X) hE hB hr (⟨(fun k => [q_1, q_2, q_3, q_4, q_5, q_6, q_7, q_8].getD k 0), rfl⟩) dX4_init_70

theorem dX6_isWord_0 : decode cX6_isWord 0 = .ok (.aload_n 0, 1) := by decide +kernel
theorem dX6_isWord_1 : decode cX6_isWord 1 = .ok (.getfield 29, 3) := by decide +kernel
theorem dX6_isWord_4 : decode cX6_isWord 4 = .ok (.iconst 2, 1) := by decide +kernel
theorem dX6_isWord_5 : decode cX6_isWord 5 = .ok (.if_icmp .ne 19, 3) := by decide +kernel
theorem dX6_isWord_8 : decode cX6_isWord 8 = .ok (.aload_n 0, 1) := by decide +kernel
theorem dX6_isWord_9 : decode cX6_isWord 9 = .ok (.getfield 26, 3) := by decide +kernel
theorem dX6_isWord_12 : decode cX6_isWord 12 = .ok (.aload_n 0, 1) := by decide +kernel
theorem dX6_isWord_13 : decode cX6_isWord 13 = .ok (.getfield 23, 3) := by decide +kernel
theorem dX6_isWord_16 : decode cX6_isWord 16 = .ok (.isub, 1) := by decide +kernel
theorem dX6_isWord_17 : decode cX6_isWord 17 = .ok (.aload_n 1, 1) := by decide +kernel
theorem dX6_isWord_18 : decode cX6_isWord 18 = .ok (.invokevirtual 105, 3) := by decide +kernel
theorem dX6_isWord_21 : decode cX6_isWord 21 = .ok (.if_icmp .eq 5, 3) := by decide +kernel
theorem dX6_isWord_24 : decode cX6_isWord 24 = .ok (.iconst 0, 1) := by decide +kernel
theorem dX6_isWord_25 : decode cX6_isWord 25 = .ok (.ireturn, 1) := by decide +kernel
theorem dX6_isWord_26 : decode cX6_isWord 26 = .ok (.iconst 0, 1) := by decide +kernel
theorem dX6_isWord_27 : decode cX6_isWord 27 = .ok (.istore_n 2, 1) := by decide +kernel
theorem dX6_isWord_28 : decode cX6_isWord 28 = .ok (.iload_n 2, 1) := by decide +kernel
theorem dX6_isWord_29 : decode cX6_isWord 29 = .ok (.aload_n 1, 1) := by decide +kernel
theorem dX6_isWord_30 : decode cX6_isWord 30 = .ok (.invokevirtual 105, 3) := by decide +kernel
theorem dX6_isWord_33 : decode cX6_isWord 33 = .ok (.if_icmp .ge 30, 3) := by decide +kernel
theorem dX6_isWord_36 : decode cX6_isWord 36 = .ok (.aload_n 0, 1) := by decide +kernel
theorem dX6_isWord_37 : decode cX6_isWord 37 = .ok (.getfield 9, 3) := by decide +kernel
theorem dX6_isWord_40 : decode cX6_isWord 40 = .ok (.aload_n 0, 1) := by decide +kernel
theorem dX6_isWord_41 : decode cX6_isWord 41 = .ok (.getfield 23, 3) := by decide +kernel
theorem dX6_isWord_44 : decode cX6_isWord 44 = .ok (.iload_n 2, 1) := by decide +kernel
theorem dX6_isWord_45 : decode cX6_isWord 45 = .ok (.iadd, 1) := by decide +kernel
theorem dX6_isWord_46 : decode cX6_isWord 46 = .ok (.baload, 1) := by decide +kernel
theorem dX6_isWord_47 : decode cX6_isWord 47 = .ok (.aload_n 1, 1) := by decide +kernel
theorem dX6_isWord_48 : decode cX6_isWord 48 = .ok (.iload_n 2, 1) := by decide +kernel
theorem dX6_isWord_49 : decode cX6_isWord 49 = .ok (.invokevirtual 111, 3) := by decide +kernel
theorem dX6_isWord_52 : decode cX6_isWord 52 = .ok (.if_icmp .eq 5, 3) := by decide +kernel
theorem dX6_isWord_55 : decode cX6_isWord 55 = .ok (.iconst 0, 1) := by decide +kernel
theorem dX6_isWord_56 : decode cX6_isWord 56 = .ok (.ireturn, 1) := by decide +kernel
theorem dX6_isWord_57 : decode cX6_isWord 57 = .ok (.iinc 2 1, 3) := by decide +kernel
theorem dX6_isWord_60 : decode cX6_isWord 60 = .ok (.goto (-32), 3) := by decide +kernel
theorem dX6_isWord_63 : decode cX6_isWord 63 = .ok (.iconst 1, 1) := by decide +kernel
theorem dX6_isWord_64 : decode cX6_isWord 64 = .ok (.ireturn, 1) := by decide +kernel
theorem dX6_takes_0 : decode cX6_takes 0 = .ok (.aload_n 0, 1) := by decide +kernel
theorem dX6_takes_1 : decode cX6_takes 1 = .ok (.invokevirtual 35, 3) := by decide +kernel
theorem dX6_takes_4 : decode cX6_takes 4 = .ok (.aload_n 0, 1) := by decide +kernel
theorem dX6_takes_5 : decode cX6_takes 5 = .ok (.getfield 29, 3) := by decide +kernel
theorem dX6_takes_8 : decode cX6_takes 8 = .ok (.iconst 3, 1) := by decide +kernel
theorem dX6_takes_9 : decode cX6_takes 9 = .ok (.if_icmp .ne 19, 3) := by decide +kernel
theorem dX6_takes_12 : decode cX6_takes 12 = .ok (.aload_n 0, 1) := by decide +kernel
theorem dX6_takes_13 : decode cX6_takes 13 = .ok (.getfield 32, 3) := by decide +kernel
theorem dX6_takes_16 : decode cX6_takes 16 = .ok (.iload_n 1, 1) := by decide +kernel
theorem dX6_takes_17 : decode cX6_takes 17 = .ok (.iload_n 2, 1) := by decide +kernel
theorem dX6_takes_18 : decode cX6_takes 18 = .ok (.invokestatic 94, 3) := by decide +kernel
theorem dX6_takes_21 : decode cX6_takes 21 = .ok (.ifCond .eq 7, 3) := by decide +kernel
theorem dX6_takes_24 : decode cX6_takes 24 = .ok (.iconst 1, 1) := by decide +kernel
theorem dX6_takes_25 : decode cX6_takes 25 = .ok (.goto 4, 3) := by decide +kernel
theorem dX6_takes_28 : decode cX6_takes 28 = .ok (.iconst 0, 1) := by decide +kernel
theorem dX6_takes_29 : decode cX6_takes 29 = .ok (.ireturn, 1) := by decide +kernel
theorem dX6_closes_0 : decode cX6_closes 0 = .ok (.aload_n 0, 1) := by decide +kernel
theorem dX6_closes_1 : decode cX6_closes 1 = .ok (.invokevirtual 35, 3) := by decide +kernel
theorem dX6_closes_4 : decode cX6_closes 4 = .ok (.aload_n 0, 1) := by decide +kernel
theorem dX6_closes_5 : decode cX6_closes 5 = .ok (.getfield 29, 3) := by decide +kernel
theorem dX6_closes_8 : decode cX6_closes 8 = .ok (.iconst 4, 1) := by decide +kernel
theorem dX6_closes_9 : decode cX6_closes 9 = .ok (.if_icmp .eq 5, 3) := by decide +kernel
theorem dX6_closes_12 : decode cX6_closes 12 = .ok (.iconst 0, 1) := by decide +kernel
theorem dX6_closes_13 : decode cX6_closes 13 = .ok (.ireturn, 1) := by decide +kernel
theorem dX6_closes_14 : decode cX6_closes 14 = .ok (.aload_n 0, 1) := by decide +kernel
theorem dX6_closes_15 : decode cX6_closes 15 = .ok (.invokevirtual 35, 3) := by decide +kernel
theorem dX6_closes_18 : decode cX6_closes 18 = .ok (.iconst 1, 1) := by decide +kernel
theorem dX6_closes_19 : decode cX6_closes 19 = .ok (.ireturn, 1) := by decide +kernel
theorem dX6_readsTown_0 : decode cX6_readsTown 0 = .ok (.aload_n 0, 1) := by decide +kernel
theorem dX6_readsTown_1 : decode cX6_readsTown 1 = .ok (.getfield 19, 3) := by decide +kernel
theorem dX6_readsTown_4 : decode cX6_readsTown 4 = .ok (.getfield 66, 3) := by decide +kernel
theorem dX6_readsTown_7 : decode cX6_readsTown 7 = .ok (.bipush 6, 2) := by decide +kernel
theorem dX6_readsTown_9 : decode cX6_readsTown 9 = .ok (.if_icmp .ge 12, 3) := by decide +kernel
theorem dX6_readsTown_12 : decode cX6_readsTown 12 = .ok (.aload_n 0, 1) := by decide +kernel
theorem dX6_readsTown_13 : decode cX6_readsTown 13 = .ok (.iconst 0, 1) := by decide +kernel
theorem dX6_readsTown_14 : decode cX6_readsTown 14 = .ok (.iconst 3, 1) := by decide +kernel
theorem dX6_readsTown_15 : decode cX6_readsTown 15 = .ok (.invokevirtual 71, 3) := by decide +kernel
theorem dX6_readsTown_18 : decode cX6_readsTown 18 = .ok (.ifCond .ne 5, 3) := by decide +kernel
theorem dX6_readsTown_21 : decode cX6_readsTown 21 = .ok (.iconst 0, 1) := by decide +kernel
theorem dX6_readsTown_22 : decode cX6_readsTown 22 = .ok (.ireturn, 1) := by decide +kernel
theorem dX6_readsTown_23 : decode cX6_readsTown 23 = .ok (.aload_n 0, 1) := by decide +kernel
theorem dX6_readsTown_24 : decode cX6_readsTown 24 = .ok (.getfield 32, 3) := by decide +kernel
theorem dX6_readsTown_27 : decode cX6_readsTown 27 = .ok (.istore_n 1, 1) := by decide +kernel
theorem dX6_readsTown_28 : decode cX6_readsTown 28 = .ok (.aload_n 0, 1) := by decide +kernel
theorem dX6_readsTown_29 : decode cX6_readsTown 29 = .ok (.invokevirtual 44, 3) := by decide +kernel
theorem dX6_readsTown_32 : decode cX6_readsTown 32 = .ok (.ifCond .ne 5, 3) := by decide +kernel
theorem dX6_readsTown_35 : decode cX6_readsTown 35 = .ok (.iconst 0, 1) := by decide +kernel
theorem dX6_readsTown_36 : decode cX6_readsTown 36 = .ok (.ireturn, 1) := by decide +kernel
theorem dX6_readsTown_37 : decode cX6_readsTown 37 = .ok (.aload_n 0, 1) := by decide +kernel
theorem dX6_readsTown_38 : decode cX6_readsTown 38 = .ok (.getfield 19, 3) := by decide +kernel
theorem dX6_readsTown_41 : decode cX6_readsTown 41 = .ok (.iload_n 1, 1) := by decide +kernel
theorem dX6_readsTown_42 : decode cX6_readsTown 42 = .ok (.invokevirtual 75, 3) := by decide +kernel
theorem dX6_readsTown_45 : decode cX6_readsTown 45 = .ok (.iconst 1, 1) := by decide +kernel
theorem dX6_readsTown_46 : decode cX6_readsTown 46 = .ok (.ireturn, 1) := by decide +kernel
theorem dX6_readsRoad_0 : decode cX6_readsRoad 0 = .ok (.aload_n 0, 1) := by decide +kernel
theorem dX6_readsRoad_1 : decode cX6_readsRoad 1 = .ok (.iconst 0, 1) := by decide +kernel
theorem dX6_readsRoad_2 : decode cX6_readsRoad 2 = .ok (.aload_n 0, 1) := by decide +kernel
theorem dX6_readsRoad_3 : decode cX6_readsRoad 3 = .ok (.getfield 19, 3) := by decide +kernel
theorem dX6_readsRoad_6 : decode cX6_readsRoad 6 = .ok (.getfield 66, 3) := by decide +kernel
theorem dX6_readsRoad_9 : decode cX6_readsRoad 9 = .ok (.iconst 1, 1) := by decide +kernel
theorem dX6_readsRoad_10 : decode cX6_readsRoad 10 = .ok (.isub, 1) := by decide +kernel
theorem dX6_readsRoad_11 : decode cX6_readsRoad 11 = .ok (.invokevirtual 71, 3) := by decide +kernel
theorem dX6_readsRoad_14 : decode cX6_readsRoad 14 = .ok (.ifCond .ne 5, 3) := by decide +kernel
theorem dX6_readsRoad_17 : decode cX6_readsRoad 17 = .ok (.iconst 0, 1) := by decide +kernel
theorem dX6_readsRoad_18 : decode cX6_readsRoad 18 = .ok (.ireturn, 1) := by decide +kernel
theorem dX6_readsRoad_19 : decode cX6_readsRoad 19 = .ok (.aload_n 0, 1) := by decide +kernel
theorem dX6_readsRoad_20 : decode cX6_readsRoad 20 = .ok (.getfield 32, 3) := by decide +kernel
theorem dX6_readsRoad_23 : decode cX6_readsRoad 23 = .ok (.istore_n 1, 1) := by decide +kernel
theorem dX6_readsRoad_24 : decode cX6_readsRoad 24 = .ok (.aload_n 0, 1) := by decide +kernel
theorem dX6_readsRoad_25 : decode cX6_readsRoad 25 = .ok (.iconst 0, 1) := by decide +kernel
theorem dX6_readsRoad_26 : decode cX6_readsRoad 26 = .ok (.aload_n 0, 1) := by decide +kernel
theorem dX6_readsRoad_27 : decode cX6_readsRoad 27 = .ok (.getfield 19, 3) := by decide +kernel
theorem dX6_readsRoad_30 : decode cX6_readsRoad 30 = .ok (.getfield 66, 3) := by decide +kernel
theorem dX6_readsRoad_33 : decode cX6_readsRoad 33 = .ok (.iconst 1, 1) := by decide +kernel
theorem dX6_readsRoad_34 : decode cX6_readsRoad 34 = .ok (.isub, 1) := by decide +kernel
theorem dX6_readsRoad_35 : decode cX6_readsRoad 35 = .ok (.invokevirtual 71, 3) := by decide +kernel
theorem dX6_readsRoad_38 : decode cX6_readsRoad 38 = .ok (.ifCond .eq 11, 3) := by decide +kernel
theorem dX6_readsRoad_41 : decode cX6_readsRoad 41 = .ok (.aload_n 0, 1) := by decide +kernel
theorem dX6_readsRoad_42 : decode cX6_readsRoad 42 = .ok (.getfield 32, 3) := by decide +kernel
theorem dX6_readsRoad_45 : decode cX6_readsRoad 45 = .ok (.iload_n 1, 1) := by decide +kernel
theorem dX6_readsRoad_46 : decode cX6_readsRoad 46 = .ok (.if_icmp .ne 5, 3) := by decide +kernel
theorem dX6_readsRoad_49 : decode cX6_readsRoad 49 = .ok (.iconst 0, 1) := by decide +kernel
theorem dX6_readsRoad_50 : decode cX6_readsRoad 50 = .ok (.ireturn, 1) := by decide +kernel
theorem dX6_readsRoad_51 : decode cX6_readsRoad 51 = .ok (.aload_n 0, 1) := by decide +kernel
theorem dX6_readsRoad_52 : decode cX6_readsRoad 52 = .ok (.getfield 32, 3) := by decide +kernel
theorem dX6_readsRoad_55 : decode cX6_readsRoad 55 = .ok (.istore_n 2, 1) := by decide +kernel
theorem dX6_readsRoad_56 : decode cX6_readsRoad 56 = .ok (.aload_n 0, 1) := by decide +kernel
theorem dX6_readsRoad_57 : decode cX6_readsRoad 57 = .ok (.iconst 1, 1) := by decide +kernel
theorem dX6_readsRoad_58 : decode cX6_readsRoad 58 = .ok (.bipush 9, 2) := by decide +kernel
theorem dX6_readsRoad_60 : decode cX6_readsRoad 60 = .ok (.invokevirtual 71, 3) := by decide +kernel
theorem dX6_readsRoad_63 : decode cX6_readsRoad 63 = .ok (.ifCond .ne 5, 3) := by decide +kernel
theorem dX6_readsRoad_66 : decode cX6_readsRoad 66 = .ok (.iconst 0, 1) := by decide +kernel
theorem dX6_readsRoad_67 : decode cX6_readsRoad 67 = .ok (.ireturn, 1) := by decide +kernel
theorem dX6_readsRoad_68 : decode cX6_readsRoad 68 = .ok (.aload_n 0, 1) := by decide +kernel
theorem dX6_readsRoad_69 : decode cX6_readsRoad 69 = .ok (.getfield 32, 3) := by decide +kernel
theorem dX6_readsRoad_72 : decode cX6_readsRoad 72 = .ok (.istore_n 3, 1) := by decide +kernel
theorem dX6_readsRoad_73 : decode cX6_readsRoad 73 = .ok (.aload_n 0, 1) := by decide +kernel
theorem dX6_readsRoad_74 : decode cX6_readsRoad 74 = .ok (.invokevirtual 44, 3) := by decide +kernel
theorem dX6_readsRoad_77 : decode cX6_readsRoad 77 = .ok (.ifCond .ne 5, 3) := by decide +kernel
theorem dX6_readsRoad_80 : decode cX6_readsRoad 80 = .ok (.iconst 0, 1) := by decide +kernel
theorem dX6_readsRoad_81 : decode cX6_readsRoad 81 = .ok (.ireturn, 1) := by decide +kernel
theorem dX6_readsRoad_82 : decode cX6_readsRoad 82 = .ok (.aload_n 0, 1) := by decide +kernel
theorem dX6_readsRoad_83 : decode cX6_readsRoad 83 = .ok (.getfield 19, 3) := by decide +kernel
theorem dX6_readsRoad_86 : decode cX6_readsRoad 86 = .ok (.iload_n 1, 1) := by decide +kernel
theorem dX6_readsRoad_87 : decode cX6_readsRoad 87 = .ok (.iload_n 2, 1) := by decide +kernel
theorem dX6_readsRoad_88 : decode cX6_readsRoad 88 = .ok (.iload_n 3, 1) := by decide +kernel
theorem dX6_readsRoad_89 : decode cX6_readsRoad 89 = .ok (.invokevirtual 79, 3) := by decide +kernel
theorem dX6_readsRoad_92 : decode cX6_readsRoad 92 = .ok (.iconst 1, 1) := by decide +kernel
theorem dX6_readsRoad_93 : decode cX6_readsRoad 93 = .ok (.ireturn, 1) := by decide +kernel
theorem dX6_readsClause_0 : decode cX6_readsClause 0 = .ok (.aload_n 0, 1) := by decide +kernel
theorem dX6_readsClause_1 : decode cX6_readsClause 1 = .ok (.getfield 19, 3) := by decide +kernel
theorem dX6_readsClause_4 : decode cX6_readsClause 4 = .ok (.getfield 83, 3) := by decide +kernel
theorem dX6_readsClause_7 : decode cX6_readsClause 7 = .ok (.bipush 8, 2) := by decide +kernel
theorem dX6_readsClause_9 : decode cX6_readsClause 9 = .ok (.if_icmp .ge 12, 3) := by decide +kernel
theorem dX6_readsClause_12 : decode cX6_readsClause 12 = .ok (.aload_n 0, 1) := by decide +kernel
theorem dX6_readsClause_13 : decode cX6_readsClause 13 = .ok (.iconst 0, 1) := by decide +kernel
theorem dX6_readsClause_14 : decode cX6_readsClause 14 = .ok (.iconst 5, 1) := by decide +kernel
theorem dX6_readsClause_15 : decode cX6_readsClause 15 = .ok (.invokevirtual 71, 3) := by decide +kernel
theorem dX6_readsClause_18 : decode cX6_readsClause 18 = .ok (.ifCond .ne 5, 3) := by decide +kernel
theorem dX6_readsClause_21 : decode cX6_readsClause 21 = .ok (.iconst 0, 1) := by decide +kernel
theorem dX6_readsClause_22 : decode cX6_readsClause 22 = .ok (.ireturn, 1) := by decide +kernel
theorem dX6_readsClause_23 : decode cX6_readsClause 23 = .ok (.aload_n 0, 1) := by decide +kernel
theorem dX6_readsClause_24 : decode cX6_readsClause 24 = .ok (.getfield 32, 3) := by decide +kernel
theorem dX6_readsClause_27 : decode cX6_readsClause 27 = .ok (.istore_n 1, 1) := by decide +kernel
theorem dX6_readsClause_28 : decode cX6_readsClause 28 = .ok (.aload_n 0, 1) := by decide +kernel
theorem dX6_readsClause_29 : decode cX6_readsClause 29 = .ok (.iconst 0, 1) := by decide +kernel
theorem dX6_readsClause_30 : decode cX6_readsClause 30 = .ok (.iconst 5, 1) := by decide +kernel
theorem dX6_readsClause_31 : decode cX6_readsClause 31 = .ok (.invokevirtual 71, 3) := by decide +kernel
theorem dX6_readsClause_34 : decode cX6_readsClause 34 = .ok (.ifCond .ne 5, 3) := by decide +kernel
theorem dX6_readsClause_37 : decode cX6_readsClause 37 = .ok (.iconst 0, 1) := by decide +kernel
theorem dX6_readsClause_38 : decode cX6_readsClause 38 = .ok (.ireturn, 1) := by decide +kernel
theorem dX6_readsClause_39 : decode cX6_readsClause 39 = .ok (.aload_n 0, 1) := by decide +kernel
theorem dX6_readsClause_40 : decode cX6_readsClause 40 = .ok (.getfield 32, 3) := by decide +kernel
theorem dX6_readsClause_43 : decode cX6_readsClause 43 = .ok (.istore_n 2, 1) := by decide +kernel
theorem dX6_readsClause_44 : decode cX6_readsClause 44 = .ok (.aload_n 0, 1) := by decide +kernel
theorem dX6_readsClause_45 : decode cX6_readsClause 45 = .ok (.iconst 0, 1) := by decide +kernel
theorem dX6_readsClause_46 : decode cX6_readsClause 46 = .ok (.bipush 60, 2) := by decide +kernel
theorem dX6_readsClause_48 : decode cX6_readsClause 48 = .ok (.invokevirtual 71, 3) := by decide +kernel
theorem dX6_readsClause_51 : decode cX6_readsClause 51 = .ok (.ifCond .ne 5, 3) := by decide +kernel
theorem dX6_readsClause_54 : decode cX6_readsClause 54 = .ok (.iconst 0, 1) := by decide +kernel
theorem dX6_readsClause_55 : decode cX6_readsClause 55 = .ok (.ireturn, 1) := by decide +kernel
theorem dX6_readsClause_56 : decode cX6_readsClause 56 = .ok (.aload_n 0, 1) := by decide +kernel
theorem dX6_readsClause_57 : decode cX6_readsClause 57 = .ok (.getfield 32, 3) := by decide +kernel
theorem dX6_readsClause_60 : decode cX6_readsClause 60 = .ok (.istore_n 3, 1) := by decide +kernel
theorem dX6_readsClause_61 : decode cX6_readsClause 61 = .ok (.aload_n 0, 1) := by decide +kernel
theorem dX6_readsClause_62 : decode cX6_readsClause 62 = .ok (.iload_n 3, 1) := by decide +kernel
theorem dX6_readsClause_63 : decode cX6_readsClause 63 = .ok (.bipush 60, 2) := by decide +kernel
theorem dX6_readsClause_65 : decode cX6_readsClause 65 = .ok (.invokevirtual 71, 3) := by decide +kernel
theorem dX6_readsClause_68 : decode cX6_readsClause 68 = .ok (.ifCond .ne 5, 3) := by decide +kernel
theorem dX6_readsClause_71 : decode cX6_readsClause 71 = .ok (.iconst 0, 1) := by decide +kernel
theorem dX6_readsClause_72 : decode cX6_readsClause 72 = .ok (.ireturn, 1) := by decide +kernel
theorem dX6_readsClause_73 : decode cX6_readsClause 73 = .ok (.aload_n 0, 1) := by decide +kernel
theorem dX6_readsClause_74 : decode cX6_readsClause 74 = .ok (.getfield 32, 3) := by decide +kernel
theorem dX6_readsClause_77 : decode cX6_readsClause 77 = .ok (.istore 4, 2) := by decide +kernel
theorem dX6_readsClause_79 : decode cX6_readsClause 79 = .ok (.aload_n 0, 1) := by decide +kernel
theorem dX6_readsClause_80 : decode cX6_readsClause 80 = .ok (.iconst 0, 1) := by decide +kernel
theorem dX6_readsClause_81 : decode cX6_readsClause 81 = .ok (.iconst 5, 1) := by decide +kernel
theorem dX6_readsClause_82 : decode cX6_readsClause 82 = .ok (.invokevirtual 71, 3) := by decide +kernel
theorem dX6_readsClause_85 : decode cX6_readsClause 85 = .ok (.ifCond .ne 5, 3) := by decide +kernel
theorem dX6_readsClause_88 : decode cX6_readsClause 88 = .ok (.iconst 0, 1) := by decide +kernel
theorem dX6_readsClause_89 : decode cX6_readsClause 89 = .ok (.ireturn, 1) := by decide +kernel
theorem dX6_readsClause_90 : decode cX6_readsClause 90 = .ok (.aload_n 0, 1) := by decide +kernel
theorem dX6_readsClause_91 : decode cX6_readsClause 91 = .ok (.getfield 32, 3) := by decide +kernel
theorem dX6_readsClause_94 : decode cX6_readsClause 94 = .ok (.istore 5, 2) := by decide +kernel
theorem dX6_readsClause_96 : decode cX6_readsClause 96 = .ok (.aload_n 0, 1) := by decide +kernel
theorem dX6_readsClause_97 : decode cX6_readsClause 97 = .ok (.invokevirtual 44, 3) := by decide +kernel
theorem dX6_readsClause_100 : decode cX6_readsClause 100 = .ok (.ifCond .ne 5, 3) := by decide +kernel
theorem dX6_readsClause_103 : decode cX6_readsClause 103 = .ok (.iconst 0, 1) := by decide +kernel
theorem dX6_readsClause_104 : decode cX6_readsClause 104 = .ok (.ireturn, 1) := by decide +kernel
theorem dX6_readsClause_105 : decode cX6_readsClause 105 = .ok (.aload_n 0, 1) := by decide +kernel
theorem dX6_readsClause_106 : decode cX6_readsClause 106 = .ok (.getfield 19, 3) := by decide +kernel
theorem dX6_readsClause_109 : decode cX6_readsClause 109 = .ok (.iload_n 1, 1) := by decide +kernel
theorem dX6_readsClause_110 : decode cX6_readsClause 110 = .ok (.iload_n 2, 1) := by decide +kernel
theorem dX6_readsClause_111 : decode cX6_readsClause 111 = .ok (.iload_n 3, 1) := by decide +kernel
theorem dX6_readsClause_112 : decode cX6_readsClause 112 = .ok (.iload 4, 2) := by decide +kernel
theorem dX6_readsClause_114 : decode cX6_readsClause 114 = .ok (.iload 5, 2) := by decide +kernel
theorem dX6_readsClause_116 : decode cX6_readsClause 116 = .ok (.invokestatic 86, 3) := by decide +kernel
theorem dX6_readsClause_119 : decode cX6_readsClause 119 = .ok (.invokevirtual 90, 3) := by decide +kernel
theorem dX6_readsClause_122 : decode cX6_readsClause 122 = .ok (.iconst 1, 1) := by decide +kernel
theorem dX6_readsClause_123 : decode cX6_readsClause 123 = .ok (.ireturn, 1) := by decide +kernel
theorem dX6_readsItem_0 : decode cX6_readsItem 0 = .ok (.aload_n 0, 1) := by decide +kernel
theorem dX6_readsItem_1 : decode cX6_readsItem 1 = .ok (.ldc 51, 2) := by decide +kernel
theorem dX6_readsItem_3 : decode cX6_readsItem 3 = .ok (.invokevirtual 40, 3) := by decide +kernel
theorem dX6_readsItem_6 : decode cX6_readsItem 6 = .ok (.ifCond .eq 8, 3) := by decide +kernel
theorem dX6_readsItem_9 : decode cX6_readsItem 9 = .ok (.aload_n 0, 1) := by decide +kernel
theorem dX6_readsItem_10 : decode cX6_readsItem 10 = .ok (.invokevirtual 53, 3) := by decide +kernel
theorem dX6_readsItem_13 : decode cX6_readsItem 13 = .ok (.ireturn, 1) := by decide +kernel
theorem dX6_readsItem_14 : decode cX6_readsItem 14 = .ok (.aload_n 0, 1) := by decide +kernel
theorem dX6_readsItem_15 : decode cX6_readsItem 15 = .ok (.ldc 56, 2) := by decide +kernel
theorem dX6_readsItem_17 : decode cX6_readsItem 17 = .ok (.invokevirtual 40, 3) := by decide +kernel
theorem dX6_readsItem_20 : decode cX6_readsItem 20 = .ok (.ifCond .eq 8, 3) := by decide +kernel
theorem dX6_readsItem_23 : decode cX6_readsItem 23 = .ok (.aload_n 0, 1) := by decide +kernel
theorem dX6_readsItem_24 : decode cX6_readsItem 24 = .ok (.invokevirtual 58, 3) := by decide +kernel
theorem dX6_readsItem_27 : decode cX6_readsItem 27 = .ok (.ireturn, 1) := by decide +kernel
theorem dX6_readsItem_28 : decode cX6_readsItem 28 = .ok (.aload_n 0, 1) := by decide +kernel
theorem dX6_readsItem_29 : decode cX6_readsItem 29 = .ok (.ldc 61, 2) := by decide +kernel
theorem dX6_readsItem_31 : decode cX6_readsItem 31 = .ok (.invokevirtual 40, 3) := by decide +kernel
theorem dX6_readsItem_34 : decode cX6_readsItem 34 = .ok (.ifCond .eq 14, 3) := by decide +kernel
theorem dX6_readsItem_37 : decode cX6_readsItem 37 = .ok (.aload_n 0, 1) := by decide +kernel
theorem dX6_readsItem_38 : decode cX6_readsItem 38 = .ok (.invokevirtual 63, 3) := by decide +kernel
theorem dX6_readsItem_41 : decode cX6_readsItem 41 = .ok (.ifCond .eq 7, 3) := by decide +kernel
theorem dX6_readsItem_44 : decode cX6_readsItem 44 = .ok (.iconst 1, 1) := by decide +kernel
theorem dX6_readsItem_45 : decode cX6_readsItem 45 = .ok (.goto 4, 3) := by decide +kernel
theorem dX6_readsItem_48 : decode cX6_readsItem 48 = .ok (.iconst 0, 1) := by decide +kernel
theorem dX6_readsItem_49 : decode cX6_readsItem 49 = .ok (.ireturn, 1) := by decide +kernel
theorem dX6_items_0 : decode cX6_items 0 = .ok (.aload_n 0, 1) := by decide +kernel
theorem dX6_items_1 : decode cX6_items 1 = .ok (.invokevirtual 35, 3) := by decide +kernel
theorem dX6_items_4 : decode cX6_items 4 = .ok (.aload_n 0, 1) := by decide +kernel
theorem dX6_items_5 : decode cX6_items 5 = .ok (.ldc 38, 2) := by decide +kernel
theorem dX6_items_7 : decode cX6_items 7 = .ok (.invokevirtual 40, 3) := by decide +kernel
theorem dX6_items_10 : decode cX6_items 10 = .ok (.ifCond .eq 10, 3) := by decide +kernel
theorem dX6_items_13 : decode cX6_items 13 = .ok (.aload_n 0, 1) := by decide +kernel
theorem dX6_items_14 : decode cX6_items 14 = .ok (.invokevirtual 44, 3) := by decide +kernel
theorem dX6_items_17 : decode cX6_items 17 = .ok (.ifCond .ne 5, 3) := by decide +kernel
theorem dX6_items_20 : decode cX6_items 20 = .ok (.iconst (-1), 1) := by decide +kernel
theorem dX6_items_21 : decode cX6_items 21 = .ok (.ireturn, 1) := by decide +kernel
theorem dX6_items_22 : decode cX6_items 22 = .ok (.iconst 1, 1) := by decide +kernel
theorem dX6_items_23 : decode cX6_items 23 = .ok (.istore_n 1, 1) := by decide +kernel
theorem dX6_items_24 : decode cX6_items 24 = .ok (.iload_n 1, 1) := by decide +kernel
theorem dX6_items_25 : decode cX6_items 25 = .ok (.sipush 150, 3) := by decide +kernel
theorem dX6_items_28 : decode cX6_items 28 = .ok (.if_icmp .gt 28, 3) := by decide +kernel
theorem dX6_items_31 : decode cX6_items 31 = .ok (.aload_n 0, 1) := by decide +kernel
theorem dX6_items_32 : decode cX6_items 32 = .ok (.getfield 29, 3) := by decide +kernel
theorem dX6_items_35 : decode cX6_items 35 = .ok (.iconst 1, 1) := by decide +kernel
theorem dX6_items_36 : decode cX6_items 36 = .ok (.if_icmp .ne 5, 3) := by decide +kernel
theorem dX6_items_39 : decode cX6_items 39 = .ok (.iload_n 1, 1) := by decide +kernel
theorem dX6_items_40 : decode cX6_items 40 = .ok (.ireturn, 1) := by decide +kernel
theorem dX6_items_41 : decode cX6_items 41 = .ok (.aload_n 0, 1) := by decide +kernel
theorem dX6_items_42 : decode cX6_items 42 = .ok (.invokevirtual 48, 3) := by decide +kernel
theorem dX6_items_45 : decode cX6_items 45 = .ok (.ifCond .ne 5, 3) := by decide +kernel
theorem dX6_items_48 : decode cX6_items 48 = .ok (.iconst (-1), 1) := by decide +kernel
theorem dX6_items_49 : decode cX6_items 49 = .ok (.ireturn, 1) := by decide +kernel
theorem dX6_items_50 : decode cX6_items 50 = .ok (.iinc 1 1, 3) := by decide +kernel
theorem dX6_items_53 : decode cX6_items 53 = .ok (.goto (-29), 3) := by decide +kernel
theorem dX6_items_56 : decode cX6_items 56 = .ok (.iconst (-1), 1) := by decide +kernel
theorem dX6_items_57 : decode cX6_items 57 = .ok (.ireturn, 1) := by decide +kernel
theorem dX6_init_0 : decode cX6_init 0 = .ok (.aload_n 0, 1) := by decide +kernel
theorem dX6_init_1 : decode cX6_init 1 = .ok (.invokespecial 3, 3) := by decide +kernel
theorem dX6_init_4 : decode cX6_init 4 = .ok (.aload_n 0, 1) := by decide +kernel
theorem dX6_init_5 : decode cX6_init 5 = .ok (.aload_n 1, 1) := by decide +kernel
theorem dX6_init_6 : decode cX6_init 6 = .ok (.putfield 9, 3) := by decide +kernel
theorem dX6_init_9 : decode cX6_init 9 = .ok (.aload_n 0, 1) := by decide +kernel
theorem dX6_init_10 : decode cX6_init 10 = .ok (.iload_n 2, 1) := by decide +kernel
theorem dX6_init_11 : decode cX6_init 11 = .ok (.aload_n 1, 1) := by decide +kernel
theorem dX6_init_12 : decode cX6_init 12 = .ok (.arraylength, 1) := by decide +kernel
theorem dX6_init_13 : decode cX6_init 13 = .ok (.if_icmp .ge 7, 3) := by decide +kernel
theorem dX6_init_16 : decode cX6_init 16 = .ok (.iload_n 2, 1) := by decide +kernel
theorem dX6_init_17 : decode cX6_init 17 = .ok (.goto 5, 3) := by decide +kernel
theorem dX6_init_20 : decode cX6_init 20 = .ok (.aload_n 1, 1) := by decide +kernel
theorem dX6_init_21 : decode cX6_init 21 = .ok (.arraylength, 1) := by decide +kernel
theorem dX6_init_22 : decode cX6_init 22 = .ok (.putfield 15, 3) := by decide +kernel
theorem dX6_init_25 : decode cX6_init 25 = .ok (.aload_n 0, 1) := by decide +kernel
theorem dX6_init_26 : decode cX6_init 26 = .ok (.aload_n 3, 1) := by decide +kernel
theorem dX6_init_27 : decode cX6_init 27 = .ok (.putfield 19, 3) := by decide +kernel
theorem dX6_init_30 : decode cX6_init 30 = .ok (.aload_n 0, 1) := by decide +kernel
theorem dX6_init_31 : decode cX6_init 31 = .ok (.iconst 0, 1) := by decide +kernel
theorem dX6_init_32 : decode cX6_init 32 = .ok (.putfield 23, 3) := by decide +kernel
theorem dX6_init_35 : decode cX6_init 35 = .ok (.aload_n 0, 1) := by decide +kernel
theorem dX6_init_36 : decode cX6_init 36 = .ok (.iconst 0, 1) := by decide +kernel
theorem dX6_init_37 : decode cX6_init 37 = .ok (.putfield 26, 3) := by decide +kernel
theorem dX6_init_40 : decode cX6_init 40 = .ok (.aload_n 0, 1) := by decide +kernel
theorem dX6_init_41 : decode cX6_init 41 = .ok (.iconst 0, 1) := by decide +kernel
theorem dX6_init_42 : decode cX6_init 42 = .ok (.putfield 29, 3) := by decide +kernel
theorem dX6_init_45 : decode cX6_init 45 = .ok (.aload_n 0, 1) := by decide +kernel
theorem dX6_init_46 : decode cX6_init 46 = .ok (.iconst 0, 1) := by decide +kernel
theorem dX6_init_47 : decode cX6_init 47 = .ok (.putfield 32, 3) := by decide +kernel
theorem dX6_init_50 : decode cX6_init 50 = .ok (.return_, 1) := by decide +kernel
theorem kX6_isWord : zCV yX6_isWord RX6 cX6_isWord 3 (some .boolean) 1 := ⟨q2_111, qp4, q1_11, q2_112, rfl, by decide +kernel, by decide +kernel, by decide +kernel⟩
theorem kX6_takes : zCV yX6_takes RX6 cX6_takes 3 (some .boolean) 2 := ⟨q2_176, qp8, q1_11, q2_177, rfl, by decide +kernel, by decide +kernel, by decide +kernel⟩
theorem kX6_closes : zCV yX6_closes RX6 cX6_closes 1 (some .boolean) 0 := ⟨q2_163, qp5, q1_11, q2_164, rfl, by decide +kernel, by decide +kernel, by decide +kernel⟩
theorem kX6_readsTown : zCV yX6_readsTown RX6 cX6_readsTown 2 (some .boolean) 0 := ⟨q2_172, qp7, q1_11, q2_173, rfl, by decide +kernel, by decide +kernel, by decide +kernel⟩
theorem kX6_readsRoad : zCV yX6_readsRoad RX6 cX6_readsRoad 4 (some .boolean) 0 := ⟨q2_183, qp9, q1_11, q2_184, rfl, by decide +kernel, by decide +kernel, by decide +kernel⟩
theorem kX6_readsClause : zCV yX6_readsClause RX6 cX6_readsClause 6 (some .boolean) 0 := ⟨q2_189, qp10, q1_11, q2_190, rfl, by decide +kernel, by decide +kernel, by decide +kernel⟩
theorem kX6_readsItem : zCV yX6_readsItem RX6 cX6_readsItem 1 (some .boolean) 0 := ⟨q2_167, qp6, q1_11, q2_168, rfl, by decide +kernel, by decide +kernel, by decide +kernel⟩
theorem kX6_items : zCV yX6_items RX6 cX6_items 2 (some .int) 0 := ⟨q2_95, q2_96, q1_11, q2_97, rfl, by decide +kernel, by decide +kernel, by decide +kernel⟩
theorem kX6_init : zCI yX6_init cX6_init 4 3 := ⟨q2_68, q1_11, q2_69, rfl, by decide +kernel, by decide +kernel, by decide +kernel⟩
theorem c_X6_advanceN (l : Launch) (g : zG) (rx : Nat) (tx : Nat) (tg : Nat) (ln : Nat) (q : Nat) (en : Int32) (nu : Int32) (x9 : Nat) (d : Nat) (rr : Nat) (im : Nat) (lx : Int32) (ab : Int32) (be : Int32) (bd : Int32) (no : Int32) (fl : Int32) (tb : Nat → Int32) (ib : Nat → Option Nat) (bb : Nat → Int32) (X : va_W) (hln : ln ≤ 150) (hby : byOK bb ln) (htb : ∀ i, i < ln → tb i = bb i) (hql : q ≤ ln) (hrd : rdK bb ln q en nu) (hk : kd bb ln q ≠ 4) : Met l yX6_advance (Cond.code yX6_advance cX6_advance 1 none :: TBL) { frames := 1, cells := 0, slots := 0, locals := 20 } (zPc [.ref rx] g (rW rx tx (nI ln) tg (nI q) en (nI (ctk (kd bb ln q))) nu ++ (xW g x9 d rr im tx lx ab be bd no fl tb ib ++ X))) (zQv g (fun ws => ∃ (e9 : Int32) (u9 : Int32), ws = rW rx tx (nI ln) tg (nI (nx bb ln q)) e9 (nI (ctk (kd bb ln (nx bb ln q)))) u9 ++ (xW g x9 d rr im tx lx ab be bd no fl tb ib ++ X) ∧ rdK bb ln (nx bb ln q) e9 u9)) 0 0 (zA (gz g)) := by
  have h9 := hrd.1 hk
  subst h9
  exact c_X6_advance l g rx tx tg ln (q + le bb ln q) (nI q) (nI (ctk (kd bb ln q))) nu x9 d rr im lx ab be bd no fl tb ib bb X hln hby htb (le_in hql)

set_option maxHeartbeats 4000000 in
set_option maxRecDepth 100000 in
theorem c_X6_isWord (l : Launch) (g : zG) (rx : Nat) (tx : Nat) (tg : Nat) (ln : Nat) (q : Nat) (en : Int32) (nu : Int32) (x9 : Nat) (d : Nat) (rr : Nat) (im : Nat) (lx : Int32) (ab : Int32) (be : Int32) (bd : Int32) (no : Int32) (fl : Int32) (tb : Nat → Int32) (ib : Nat → Option Nat) (bb : Nat → Int32) (i : Nat) (X : va_W) (hln : ln ≤ 150) (hby : byOK bb ln) (htb : ∀ i, i < ln → tb i = bb i) (hql : q ≤ ln) (hrd : rdK bb ln q en nu) (hi : i < 4) : Met l yX6_isWord (Cond.code yX6_isWord cX6_isWord 3 (some .boolean) :: TBL) { frames := 4, cells := 0, slots := 0, locals := 85 } (zPc [.ref rx, .ref (gAK g i)] g (rW rx tx (nI ln) tg (nI q) en (nI (ctk (kd bb ln q))) nu ++ (xW g x9 d rr im tx lx ab be bd no fl tb ib ++ X))) (zQi g (fun r ws => r = bI (wdQ bb ln q (wdL.getD i 0) (wK i)) ∧ ws = rW rx tx (nI ln) tg (nI q) en (nI (ctk (kd bb ln q))) nu ++ (xW g x9 d rr im tx lx ab be bd no fl tb ib ++ X))) 0 0 (zA (gz g)) := by
  refine z_start (by decide +kernel) rfl (Nat.le_of_ble_eq_true rfl) ?_
  intro p e s m args below meth c ls hE hr hnm hB hl
  have hl : lv_has ls 3 [(0, .ref rx), (1, .ref (gAK g i))] := hl
  revert hB
  generalize s.heap = H
  generalize ([] : List Loc) = locs
  intro hB
  have hk4 := ctk_4 (b := bb) (ln := ln) (q := q)
  have hk1 := ctk_2 (b := bb) (ln := ln) (q := q)
  refine lv_aload_n hE.x hE.b dX6_isWord_0 rfl (lv_at hl 0 rfl) ?_
  refine z_get (v := .int (nI (ctk (kd bb ln q)))) hE hB inX6 0 rfl rfl 5 (by decide) q2_77 (fun _ h9 => h9) rfl dX6_isWord_1 ?_
  refine lv_iconst (v := nI 2) hE.x hE.b dX6_isWord_4 rfl ?_
  refine z_ne (tgt := 24) (X := (((ctk (kd bb ln q)) : Nat) : Int)) (Y := (2 : Int)) hE dX6_isWord_5 (by decide) (nI_toInt (n := (ctk (kd bb ln q))) (by omega)) rfl (fun c_1 => ?_) (fun c_1 => ?_)
  · refine lv_iconst (v := nI 0) hE.x hE.b dX6_isWord_24 rfl ?_
    exact z_bret (b := false) (ws := rW rx tx (nI ln) tg (nI q) en (nI (ctk (kd bb ln q))) nu ++ (xW g x9 d rr im tx lx ab be bd no fl tb ib ++ X)) hE hB hr (⟨congrArg bI (wd_no1 (by omega)), rfl⟩) dX6_isWord_25
  · have hk1 := ctk_2 (b := bb) (ln := ln) (q := q)
    have he9 := hrd.1 (by omega)
    subst he9
    have hle := le_in (b := bb) hql
    have h7 := len_7 i hi
    refine lv_aload_n hE.x hE.b dX6_isWord_8 rfl (lv_at hl 0 rfl) ?_
    refine z_get (v := .int (nI (q + le bb ln q))) hE hB inX6 0 rfl rfl 4 (by decide) q2_76 (fun _ h9 => h9) rfl dX6_isWord_9 ?_
    refine lv_aload_n hE.x hE.b dX6_isWord_12 rfl (lv_at hl 0 rfl) ?_
    refine z_get (v := .int (nI q)) hE hB inX6 0 rfl rfl 3 (by decide) q2_74 (fun _ h9 => h9) rfl dX6_isWord_13 ?_
    refine z_isubN hE (by omega) dX6_isWord_16 ?_
    refine lv_aload_n hE.x hE.b dX6_isWord_17 rfl (lv_at hl 1 rfl) ?_
    refine z_qi hB (z_cK hE hB (c_J0_length_8abf5 l g i (rW rx tx (nI ln) tg (nI q) (nI (q + le bb ln q)) (nI (ctk (kd bb ln q))) nu ++ (xW g x9 d rr im tx lx ab be bd no fl tb ib ++ X)) hi) q2_113 kJ0_length_8abf5 ⟨rfl, rfl⟩ ⟨Nat.le_of_ble_eq_true rfl, Nat.le_of_ble_eq_true rfl⟩ hi rfl hl.1 rfl (Nat.le_of_ble_eq_true rfl) dX6_isWord_18 ⟨Nat.le_of_ble_eq_true rfl, Nat.le_of_ble_eq_true rfl⟩) (fun r_2 w_3 H locs hw hB => ?_)
    obtain ⟨hr9, hw9⟩ := hw
    have hr9 := hr9.symm
    subst hr9
    have hw9 := hw9.symm
    subst hw9
    refine z_eq (tgt := 26) (X := ((((q + le bb ln q) - q) : Nat) : Int)) (Y := (((wdL.getD i 0) : Nat) : Int)) hE dX6_isWord_21 (by decide) (nI_toInt (n := ((q + le bb ln q) - q)) (by omega)) (nI_toInt (n := (wdL.getD i 0)) (by omega)) (fun c_4 => ?_) (fun c_4 => ?_)
    · refine lv_iconst (v := nI 0) hE.x hE.b dX6_isWord_26 rfl ?_
      refine lv_istore_n (lv' := [(2, .int (nI 0)), (0, .ref rx), (1, .ref (gAK g i))]) hE.x hE.b dX6_isWord_27 rfl hl (by decide) rfl (fun ls hl => ?_)
      have k28 : ∀ (fu : Nat) (k : Nat) (H : Heap) (locs : List Loc) (ls : Array Slot), wdL.getD i 0 - k < fu → (k ≤ wdL.getD i 0) → (∀ j, j < k → bb (q + j) = nI (wK i j)) → zB g s (rW rx tx (nI ln) tg (nI q) (nI (q + le bb ln q)) (nI (ctk (kd bb ln q))) nu ++ (xW g x9 d rr im tx lx ab be bd no fl tb ib ++ X)) H locs → lv_has ls 3 [(2, .int (nI k)), (0, .ref rx), (1, .ref (gAK g i))] → W p l e { frames := 4, cells := 0, slots := 0, locals := 85 } s m args below meth c H locs 0 0 (MQ below (zQi g (fun r ws => r = bI (wdQ bb ln q (wdL.getD i 0) (wK i)) ∧ ws = rW rx tx (nI ln) tg (nI q) (nI (q + le bb ln q)) (nI (ctk (kd bb ln q))) nu ++ (xW g x9 d rr im tx lx ab be bd no fl tb ib ++ X))) args s 0 0 (zA (gz g))) (F0 m 28 ls []) := by
        intro fu
        induction fu with
        | zero => intro k H locs ls hfu hk9 hw hB hl; exact absurd hfu (Nat.not_lt_zero _)
        | succ fu ih28 =>
          intro k H locs ls hfu hk9 hw hB hl
          refine lv_iload_n hE.x hE.b dX6_isWord_28 rfl (lv_at hl 0 rfl) ?_
          refine lv_aload_n hE.x hE.b dX6_isWord_29 rfl (lv_at hl 2 rfl) ?_
          refine z_qi hB (z_cK hE hB (c_J0_length_8abf5 l g i (rW rx tx (nI ln) tg (nI q) (nI (q + le bb ln q)) (nI (ctk (kd bb ln q))) nu ++ (xW g x9 d rr im tx lx ab be bd no fl tb ib ++ X)) hi) q2_113 kJ0_length_8abf5 ⟨rfl, rfl⟩ ⟨Nat.le_of_ble_eq_true rfl, Nat.le_of_ble_eq_true rfl⟩ hi rfl hl.1 rfl (Nat.le_of_ble_eq_true rfl) dX6_isWord_30 ⟨Nat.le_of_ble_eq_true rfl, Nat.le_of_ble_eq_true rfl⟩) (fun r_5 w_6 H locs hw hB => ?_)
          obtain ⟨hr9, hw9⟩ := hw
          have hr9 := hr9.symm
          subst hr9
          have hw9 := hw9.symm
          subst hw9
          refine z_ge (tgt := 63) (X := ((k : Nat) : Int)) (Y := (((wdL.getD i 0) : Nat) : Int)) hE dX6_isWord_33 (by decide) (nI_toInt (n := k) (by omega)) (nI_toInt (n := (wdL.getD i 0)) (by omega)) (fun c_7 => ?_) (fun c_7 => ?_)
          · refine lv_iconst (v := nI 1) hE.x hE.b dX6_isWord_63 rfl ?_
            exact z_bret (b := true) (ws := rW rx tx (nI ln) tg (nI q) (nI (q + le bb ln q)) (nI (ctk (kd bb ln q))) nu ++ (xW g x9 d rr im tx lx ab be bd no fl tb ib ++ X)) hE hB hr (⟨congrArg bI (wd_yes (by omega) (by omega) (fun j hj => hw j (by omega))), rfl⟩) dX6_isWord_64
          · refine lv_aload_n hE.x hE.b dX6_isWord_36 rfl (lv_at hl 1 rfl) ?_
            refine z_get (v := .ref tx) hE hB inX6 0 rfl rfl 0 (by decide) q2_71 (fun _ h9 => h9) rfl dX6_isWord_37 ?_
            refine lv_aload_n hE.x hE.b dX6_isWord_40 rfl (lv_at hl 1 rfl) ?_
            refine z_get (v := .int (nI q)) hE hB inX6 0 rfl rfl 3 (by decide) q2_74 (fun _ h9 => h9) rfl dX6_isWord_41 ?_
            refine lv_iload_n hE.x hE.b dX6_isWord_44 rfl (lv_at hl 0 rfl) ?_
            refine z_iaddN hE dX6_isWord_45 ?_
            refine z_bald (k := (q + k)) (f := tb) hE hB 2 rfl (by omega) (by decide) dX6_isWord_46 ?_
            refine z_top (y := (bb (q + k))) (htb _ (by omega)) ?_
            refine lv_aload_n hE.x hE.b dX6_isWord_47 rfl (lv_at hl 2 rfl) ?_
            refine lv_iload_n hE.x hE.b dX6_isWord_48 rfl (lv_at hl 0 rfl) ?_
            refine z_qi hB (z_cK hE hB (c_J0_charAt_5068e l g i k (rW rx tx (nI ln) tg (nI q) (nI (q + le bb ln q)) (nI (ctk (kd bb ln q))) nu ++ (xW g x9 d rr im tx lx ab be bd no fl tb ib ++ X)) hi (by omega)) q2_123 kJ0_charAt_5068e ⟨rfl, rfl⟩ ⟨Nat.le_of_ble_eq_true rfl, Nat.le_of_ble_eq_true rfl⟩ hi rfl hl.1 rfl (Nat.le_of_ble_eq_true rfl) dX6_isWord_49 ⟨Nat.le_of_ble_eq_true rfl, Nat.le_of_ble_eq_true rfl⟩) (fun r_8 w_9 H locs hw hB => ?_)
            obtain ⟨hr9, hw9⟩ := hw
            have hr9 := hr9.symm
            subst hr9
            have hw9 := hw9.symm
            subst hw9
            refine lv_icmp_eq (tgt := 57) hE.x hE.b dX6_isWord_52 (by decide) (fun c_10 => ?_) (fun c_10 => ?_)
            · refine lv_iinc (v := (nI (k + 1))) (lv' := [(2, .int (nI (k + 1))), (0, .ref rx), (1, .ref (gAK g i))]) hE.x hE.b dX6_isWord_57 hl (k := 0) rfl (nI_add _ _) (by decide) rfl (fun ls hl => ?_)
              refine lv_goto (tgt := 28) hE.x hE.b dX6_isWord_60 (by decide) ?_
              exact ih28 (k + 1) _ _ _ (by omega) (by omega) (wd_go hw (by rw [← wK_eq i hi k (by omega)]; exact c_10)) hB hl
            · refine lv_iconst (v := nI 0) hE.x hE.b dX6_isWord_55 rfl ?_
              exact z_bret (b := false) (ws := rW rx tx (nI ln) tg (nI q) (nI (q + le bb ln q)) (nI (ctk (kd bb ln q))) nu ++ (xW g x9 d rr im tx lx ab be bd no fl tb ib ++ X)) hE hB hr (⟨congrArg bI (wd_no3 (k := k) (by omega) (by rw [← wK_eq i hi k (by omega)]; exact c_10)), rfl⟩) dX6_isWord_56
      exact k28 (wdL.getD i 0 - 0 + 1) 0 _ _ _ (Nat.lt_succ_self _) (by omega) (fun j hj => absurd hj (Nat.not_lt_zero j)) hB hl
    · refine lv_iconst (v := nI 0) hE.x hE.b dX6_isWord_24 rfl ?_
      exact z_bret (b := false) (ws := rW rx tx (nI ln) tg (nI q) (nI (q + le bb ln q)) (nI (ctk (kd bb ln q))) nu ++ (xW g x9 d rr im tx lx ab be bd no fl tb ib ++ X)) hE hB hr (⟨congrArg bI (wd_no2 (by omega)), rfl⟩) dX6_isWord_25

set_option maxHeartbeats 4000000 in
set_option maxRecDepth 100000 in
theorem c_X6_takes (l : Launch) (g : zG) (rx : Nat) (tx : Nat) (tg : Nat) (ln : Nat) (q : Nat) (en : Int32) (nu : Int32) (x9 : Nat) (d : Nat) (rr : Nat) (im : Nat) (lx : Int32) (ab : Int32) (be : Int32) (bd : Int32) (no : Int32) (fl : Int32) (tb : Nat → Int32) (ib : Nat → Option Nat) (bb : Nat → Int32) (lo : Int32) (hi : Int32) (Lo : Int) (Hi : Int) (X : va_W) (hln : ln ≤ 150) (hby : byOK bb ln) (htb : ∀ i, i < ln → tb i = bb i) (hql : q ≤ ln) (hrd : rdK bb ln q en nu) (hk : kd bb ln q ≠ 4) (hlo : lo.toInt = Lo) (hhi : hi.toInt = Hi) : Met l yX6_takes (Cond.code yX6_takes cX6_takes 3 (some .boolean) :: TBL) { frames := 2, cells := 0, slots := 0, locals := 40 } (zPc [.ref rx, .int lo, .int hi] g (rW rx tx (nI ln) tg (nI q) en (nI (ctk (kd bb ln q))) nu ++ (xW g x9 d rr im tx lx ab be bd no fl tb ib ++ X))) (zQi g (fun r ws => ∃ (e9 : Int32) (u9 : Int32), r = bI (tkB bb ln (nx bb ln q) Lo Hi) ∧ ws = rW rx tx (nI ln) tg (nI (nx bb ln q)) e9 (nI (ctk (kd bb ln (nx bb ln q)))) u9 ++ (xW g x9 d rr im tx lx ab be bd no fl tb ib ++ X) ∧ rdK bb ln (nx bb ln q) e9 u9)) 0 0 (zA (gz g)) := by
  refine z_start (by decide +kernel) rfl (Nat.le_of_ble_eq_true rfl) ?_
  intro p e s m args below meth c ls hE hr hnm hB hl
  have hl : lv_has ls 3 [(0, .ref rx), (1, .int lo), (2, .int hi)] := hl
  revert hB
  generalize s.heap = H
  generalize ([] : List Loc) = locs
  intro hB
  refine lv_aload_n hE.x hE.b dX6_takes_0 rfl (lv_at hl 0 rfl) ?_
  refine z_qv hB (z_cV hE hB (c_X6_advanceN l g rx tx tg ln q en nu x9 d rr im lx ab be bd no fl tb ib bb X (by omega) hby htb hql hrd hk) q2_98 kX6_advance ⟨rfl, rfl⟩ ⟨Nat.le_of_ble_eq_true rfl, Nat.le_of_ble_eq_true rfl⟩ 0 rfl rfl rfl hl.1 rfl (Nat.le_of_ble_eq_true rfl) dX6_takes_1 ⟨Nat.le_of_ble_eq_true rfl, Nat.le_of_ble_eq_true rfl⟩) (fun w_2 H locs hw hB => ?_)
  obtain ⟨e9_3, u9_4, hw9, hf_5⟩ := hw
  have hw9 := hw9.symm
  subst hw9
  have hk4 := ctk_4 (b := bb) (ln := ln) (q := (nx bb ln q))
  have hk3 := ctk_3 (b := bb) (ln := ln) (q := (nx bb ln q))
  refine lv_aload_n hE.x hE.b dX6_takes_4 rfl (lv_at hl 0 rfl) ?_
  refine z_get (v := .int (nI (ctk (kd bb ln (nx bb ln q))))) hE hB inX6 0 rfl rfl 5 (by decide) q2_77 (fun _ h9 => h9) rfl dX6_takes_5 ?_
  refine lv_iconst (v := nI 3) hE.x hE.b dX6_takes_8 rfl ?_
  refine z_ne (tgt := 28) (X := (((ctk (kd bb ln (nx bb ln q))) : Nat) : Int)) (Y := (3 : Int)) hE dX6_takes_9 (by decide) (nI_toInt (n := (ctk (kd bb ln (nx bb ln q)))) (by omega)) rfl (fun c_6 => ?_) (fun c_6 => ?_)
  · refine lv_iconst (v := nI 0) hE.x hE.b dX6_takes_28 rfl ?_
    exact z_bret (b := false) (ws := rW rx tx (nI ln) tg (nI (nx bb ln q)) e9_3 (nI (ctk (kd bb ln (nx bb ln q)))) u9_4 ++ (xW g x9 d rr im tx lx ab be bd no fl tb ib ++ X)) hE hB hr (⟨e9_3, u9_4, congrArg bI (tk_no (by omega)), rfl, hf_5⟩) dX6_takes_29
  · refine lv_aload_n hE.x hE.b dX6_takes_12 rfl (lv_at hl 0 rfl) ?_
    refine z_get (v := .int u9_4) hE hB inX6 0 rfl rfl 6 (by decide) q2_78 (fun _ h9 => h9) rfl dX6_takes_13 ?_
    refine lv_iload_n hE.x hE.b dX6_takes_16 rfl (lv_at hl 1 rfl) ?_
    refine lv_iload_n hE.x hE.b dX6_takes_17 rfl (lv_at hl 2 rfl) ?_
    refine z_qi hB (z_cSN hE hB (c_X8_within l g u9_4 lo hi u9_4.toInt Lo Hi (rW rx tx (nI ln) tg (nI (nx bb ln q)) e9_3 (nI (ctk (kd bb ln (nx bb ln q)))) u9_4 ++ (xW g x9 d rr im tx lx ab be bd no fl tb ib ++ X)) rfl hlo hhi) hE.2.1.2.1.2.1 kX8_within ⟨rfl, rfl⟩ ⟨Nat.le_of_ble_eq_true rfl, Nat.le_of_ble_eq_true rfl⟩ rfl hl.1 rfl (Nat.le_of_ble_eq_true rfl) dX6_takes_18 ⟨Nat.le_of_ble_eq_true rfl, Nat.le_of_ble_eq_true rfl⟩) (fun r_7 w_8 H locs hw hB => ?_)
    obtain ⟨hr9, hw9⟩ := hw
    have hr9 := hr9.symm
    subst hr9
    have hw9 := hw9.symm
    subst hw9
    refine z_bf (b := (inZ Lo Hi u9_4.toInt)) (tgt := 28) hE dX6_takes_21 (by decide) (fun c_9 => ?_) (fun c_9 => ?_)
    · refine lv_iconst (v := nI 0) hE.x hE.b dX6_takes_28 rfl ?_
      exact z_bret (b := false) (ws := rW rx tx (nI ln) tg (nI (nx bb ln q)) e9_3 (nI (ctk (kd bb ln (nx bb ln q)))) u9_4 ++ (xW g x9 d rr im tx lx ab be bd no fl tb ib ++ X)) hE hB hr (⟨e9_3, u9_4, congrArg bI (tk_is (by omega) hf_5 c_9), rfl, hf_5⟩) dX6_takes_29
    · refine lv_iconst (v := nI 1) hE.x hE.b dX6_takes_24 rfl ?_
      refine lv_goto (tgt := 29) hE.x hE.b dX6_takes_25 (by decide) ?_
      exact z_bret (b := true) (ws := rW rx tx (nI ln) tg (nI (nx bb ln q)) e9_3 (nI (ctk (kd bb ln (nx bb ln q)))) u9_4 ++ (xW g x9 d rr im tx lx ab be bd no fl tb ib ++ X)) hE hB hr (⟨e9_3, u9_4, congrArg bI (tk_is (by omega) hf_5 c_9), rfl, hf_5⟩) dX6_takes_29

set_option maxHeartbeats 4000000 in
set_option maxRecDepth 100000 in
theorem c_X6_closes (l : Launch) (g : zG) (rx : Nat) (tx : Nat) (tg : Nat) (ln : Nat) (q : Nat) (en : Int32) (nu : Int32) (x9 : Nat) (d : Nat) (rr : Nat) (im : Nat) (lx : Int32) (ab : Int32) (be : Int32) (bd : Int32) (no : Int32) (fl : Int32) (tb : Nat → Int32) (ib : Nat → Option Nat) (bb : Nat → Int32) (X : va_W) (hln : ln ≤ 150) (hby : byOK bb ln) (htb : ∀ i, i < ln → tb i = bb i) (hql : q ≤ ln) (hrd : rdK bb ln q en nu) (hk : kd bb ln q ≠ 4) : Met l yX6_closes (Cond.code yX6_closes cX6_closes 1 (some .boolean) :: TBL) { frames := 2, cells := 0, slots := 0, locals := 40 } (zPc [.ref rx] g (rW rx tx (nI ln) tg (nI q) en (nI (ctk (kd bb ln q))) nu ++ (xW g x9 d rr im tx lx ab be bd no fl tb ib ++ X))) (zQi g (fun r ws => ∃ (q9 : Nat) (e9 : Int32) (u9 : Int32), r = bI (decide (kd bb ln (nx bb ln q) = 3)) ∧ ws = rW rx tx (nI ln) tg (nI q9) e9 (nI (ctk (kd bb ln q9))) u9 ++ (xW g x9 d rr im tx lx ab be bd no fl tb ib ++ X) ∧ rdK bb ln q9 e9 u9 ∧ q9 = cls bb ln q)) 0 0 (zA (gz g)) := by
  refine z_start (by decide +kernel) rfl (Nat.le_of_ble_eq_true rfl) ?_
  intro p e s m args below meth c ls hE hr hnm hB hl
  have hl : lv_has ls 1 [(0, .ref rx)] := hl
  revert hB
  generalize s.heap = H
  generalize ([] : List Loc) = locs
  intro hB
  refine lv_aload_n hE.x hE.b dX6_closes_0 rfl (lv_at hl 0 rfl) ?_
  refine z_qv hB (z_cV hE hB (c_X6_advanceN l g rx tx tg ln q en nu x9 d rr im lx ab be bd no fl tb ib bb X (by omega) hby htb hql hrd hk) q2_98 kX6_advance ⟨rfl, rfl⟩ ⟨Nat.le_of_ble_eq_true rfl, Nat.le_of_ble_eq_true rfl⟩ 0 rfl rfl rfl hl.1 rfl (Nat.le_of_ble_eq_true rfl) dX6_closes_1 ⟨Nat.le_of_ble_eq_true rfl, Nat.le_of_ble_eq_true rfl⟩) (fun w_2 H locs hw hB => ?_)
  obtain ⟨e9_3, u9_4, hw9, hf_5⟩ := hw
  have hw9 := hw9.symm
  subst hw9
  have hk4 := ctk_4 (b := bb) (ln := ln) (q := (nx bb ln q))
  have hkc := ctk_c (b := bb) (ln := ln) (q := (nx bb ln q))
  refine lv_aload_n hE.x hE.b dX6_closes_4 rfl (lv_at hl 0 rfl) ?_
  refine z_get (v := .int (nI (ctk (kd bb ln (nx bb ln q))))) hE hB inX6 0 rfl rfl 5 (by decide) q2_77 (fun _ h9 => h9) rfl dX6_closes_5 ?_
  refine lv_iconst (v := nI 4) hE.x hE.b dX6_closes_8 rfl ?_
  refine z_eq (tgt := 14) (X := (((ctk (kd bb ln (nx bb ln q))) : Nat) : Int)) (Y := (4 : Int)) hE dX6_closes_9 (by decide) (nI_toInt (n := (ctk (kd bb ln (nx bb ln q)))) (by omega)) rfl (fun c_6 => ?_) (fun c_6 => ?_)
  · refine lv_aload_n hE.x hE.b dX6_closes_14 rfl (lv_at hl 0 rfl) ?_
    refine z_qv hB (z_cV hE hB (c_X6_advanceN l g rx tx tg ln (nx bb ln q) e9_3 u9_4 x9 d rr im lx ab be bd no fl tb ib bb X (by omega) hby htb (nx_in (b := bb) hql) hf_5 (by omega)) q2_98 kX6_advance ⟨rfl, rfl⟩ ⟨Nat.le_of_ble_eq_true rfl, Nat.le_of_ble_eq_true rfl⟩ 0 rfl rfl rfl hl.1 rfl (Nat.le_of_ble_eq_true rfl) dX6_closes_15 ⟨Nat.le_of_ble_eq_true rfl, Nat.le_of_ble_eq_true rfl⟩) (fun w_8 H locs hw hB => ?_)
    obtain ⟨e9_9, u9_10, hw9, hf_11⟩ := hw
    have hw9 := hw9.symm
    subst hw9
    refine lv_iconst (v := nI 1) hE.x hE.b dX6_closes_18 rfl ?_
    exact z_bret (b := true) (ws := rW rx tx (nI ln) tg (nI (nx bb ln (nx bb ln q))) e9_9 (nI (ctk (kd bb ln (nx bb ln (nx bb ln q))))) u9_10 ++ (xW g x9 d rr im tx lx ab be bd no fl tb ib ++ X)) hE hB hr (⟨(nx bb ln (nx bb ln q)), e9_9, u9_10, congrArg bI (decide_eq_true (by omega)).symm, rfl, hf_11, by unfold cls; rw [if_pos (by omega)]⟩) dX6_closes_19
  · refine lv_iconst (v := nI 0) hE.x hE.b dX6_closes_12 rfl ?_
    exact z_bret (b := false) (ws := rW rx tx (nI ln) tg (nI (nx bb ln q)) e9_3 (nI (ctk (kd bb ln (nx bb ln q)))) u9_4 ++ (xW g x9 d rr im tx lx ab be bd no fl tb ib ++ X)) hE hB hr (⟨(nx bb ln q), e9_3, u9_4, congrArg bI (decide_eq_false (by omega)).symm, rfl, hf_5, by unfold cls; rw [if_neg (by omega)]⟩) dX6_closes_13

set_option maxHeartbeats 4000000 in
set_option maxRecDepth 100000 in
theorem c_X6_readsTown (l : Launch) (g : zG) (rx : Nat) (tx : Nat) (tg : Nat) (ln : Nat) (q : Nat) (en : Int32) (nu : Int32) (x9 : Nat) (d : Nat) (rr : Nat) (im : Nat) (lx : Int32) (ab : Int32) (be : Int32) (bd : Int32) (no : Int32) (fl : Int32) (tb : Nat → Int32) (ib : Nat → Option Nat) (bb : Nat → Int32) (ta : Nat → Nat) (T : Nat) (C : Nat) (U : Nat) (V : Nat) (rd : Nat → Int32) (ro : Nat → Int32) (lw : Nat → Option Nat) (pl : Nat → Option Nat) (pc : Nat → Int32) (gv : Nat → Int32) (aw : Nat → Int32) (nt : Nat → Int32) (n : Nat → Int32) (Y : va_W) (X : va_W) (hln : ln ≤ 150) (hby : byOK bb ln) (htb : ∀ i, i < ln → tb i = bb i) (hql : q ≤ ln) (hrd : rdK bb ln q en nu) (hpk : pK n T C) (hrel : relL n T C U V rd ro lw pl pc gv Y) (hkw : kd bb ln q = 1) : Met l yX6_readsTown (Cond.code yX6_readsTown cX6_readsTown 2 (some .boolean) :: TBL) { frames := 3, cells := 0, slots := 0, locals := 62 } (zPc [.ref rx] g (rW rx tx (nI ln) tg (nI q) en (nI (ctk (kd bb ln q))) nu ++ (xW g x9 d rr im tx lx ab be bd no fl tb ib ++ (lW g tg ta (nI T) (nI C) (nI U) (nI V) rd ro lw pl pc gv aw nt ++ (Y ++ X))))) (zQi g (fun r ws => ∃ (q9 : Nat) (T9 : Nat) (C9 : Nat) (n9 : Nat → Int32) (rd9 : Nat → Int32) (ro9 : Nat → Int32) (lw9 : Nat → Option Nat) (Y9 : va_W) (e9 : Int32) (u9 : Int32), r = bI (okI bb ln (pTw bb ln n T C q)) ∧ ws = rW rx tx (nI ln) tg (nI q9) e9 (nI (ctk (kd bb ln q9))) u9 ++ (xW g x9 d rr im tx lx ab be bd no fl tb ib ++ (lW g tg ta (nI T9) (nI C9) (nI U) (nI V) rd9 ro9 lw9 pl pc gv aw nt ++ (Y9 ++ X))) ∧ rdK bb ln q9 e9 u9 ∧ relL n9 T9 C9 U V rd9 ro9 lw9 pl pc gv Y9 ∧ (∀ x ∈ Y, x ∈ Y9) ∧ (q9, n9, T9, C9) = sR bb ln (pTw bb ln n T C q) n T C)) 0 0 (zA (gz g)) := by
  refine z_start (by decide +kernel) rfl (Nat.le_of_ble_eq_true rfl) ?_
  intro p e s m args below meth c ls hE hr hnm hB hl
  have hl : lv_has ls 2 [(0, .ref rx)] := hl
  revert hB
  generalize s.heap = H
  generalize ([] : List Loc) = locs
  intro hB
  have hT6 := hpk.2.1
  have hC8 := hpk.2.2.2
  refine lv_aload_n hE.x hE.b dX6_readsTown_0 rfl (lv_at hl 0 rfl) ?_
  refine z_get (v := .ref tg) hE hB inX6 0 rfl rfl 2 (by decide) q2_73 (fun _ h9 => h9) rfl dX6_readsTown_1 ?_
  refine z_get (v := .int (nI T)) hE hB inX4 4 rfl rfl 0 (by decide) q1_35 (fun _ h9 => h9) rfl dX6_readsTown_4 ?_
  refine lv_bipush (v := (nI 6)) hE.x hE.b dX6_readsTown_7 rfl ?_
  refine z_ge (tgt := 21) (X := ((T : Nat) : Int)) (Y := (6 : Int)) hE dX6_readsTown_9 (by decide) (nI_toInt (n := T) (by omega)) rfl (fun c_1 => ?_) (fun c_1 => ?_)
  · refine lv_iconst (v := nI 0) hE.x hE.b dX6_readsTown_21 rfl ?_
    exact z_bret (b := false) (ws := rW rx tx (nI ln) tg (nI q) en (nI (ctk (kd bb ln q))) nu ++ (xW g x9 d rr im tx lx ab be bd no fl tb ib ++ (lW g tg ta (nI T) (nI C) (nI U) (nI V) rd ro lw pl pc gv aw nt ++ (Y ++ X)))) hE hB hr (⟨q, T, C, n, rd, ro, lw, Y, en, nu, congrArg bI (ok_l (show (pTw bb ln n T C q) = .inl q from by unfold pTw; rw [if_pos (by omega)])), rfl, hrd, hrel, (fun _ h => h), sR_l (show (pTw bb ln n T C q) = .inl q from by unfold pTw; rw [if_pos (by omega)])⟩) dX6_readsTown_22
  · refine lv_aload_n hE.x hE.b dX6_readsTown_12 rfl (lv_at hl 0 rfl) ?_
    refine lv_iconst (v := nI 0) hE.x hE.b dX6_readsTown_13 rfl ?_
    refine lv_iconst (v := nI 3) hE.x hE.b dX6_readsTown_14 rfl ?_
    refine z_qi hB (z_cV hE hB (c_X6_takes l g rx tx tg ln q en nu x9 d rr im lx ab be bd no fl tb ib bb (nI 0) (nI 3) (0 : Int) (3 : Int) (lW g tg ta (nI T) (nI C) (nI U) (nI V) rd ro lw pl pc gv aw nt ++ (Y ++ X)) (by omega) hby htb hql hrd (by omega) rfl rfl) q2_174 kX6_takes ⟨rfl, rfl⟩ ⟨Nat.le_of_ble_eq_true rfl, Nat.le_of_ble_eq_true rfl⟩ 0 rfl rfl rfl hl.1 rfl (Nat.le_of_ble_eq_true rfl) dX6_readsTown_15 ⟨Nat.le_of_ble_eq_true rfl, Nat.le_of_ble_eq_true rfl⟩) (fun r_2 w_3 H locs hw hB => ?_)
    obtain ⟨e9_4, u9_5, hr9, hw9, hf_6⟩ := hw
    have hr9 := hr9.symm
    subst hr9
    have hw9 := hw9.symm
    subst hw9
    refine z_bt (b := (tkB bb ln (nx bb ln q) (0 : Int) (3 : Int))) (tgt := 23) hE dX6_readsTown_18 (by decide) (fun c_7 => ?_) (fun c_7 => ?_)
    · have htr1 := tkB_r c_7
      have hvl1 := vl_99 (b := bb) (ln := ln) (q := (nx bb ln q))
      have hu9 := hf_6.2 htr1.1
      subst hu9
      refine lv_aload_n hE.x hE.b dX6_readsTown_23 rfl (lv_at hl 0 rfl) ?_
      refine z_get (v := .int (nI (vl bb ln (nx bb ln q)))) hE hB inX6 0 rfl rfl 6 (by decide) q2_78 (fun _ h9 => h9) rfl dX6_readsTown_24 ?_
      refine lv_istore_n (lv' := [(1, .int (nI (vl bb ln (nx bb ln q)))), (0, .ref rx)]) hE.x hE.b dX6_readsTown_27 rfl hl (by decide) rfl (fun ls hl => ?_)
      refine lv_aload_n hE.x hE.b dX6_readsTown_28 rfl (lv_at hl 1 rfl) ?_
      refine z_qi hB (z_cV hE hB (c_X6_closes l g rx tx tg ln (nx bb ln q) e9_4 (nI (vl bb ln (nx bb ln q))) x9 d rr im lx ab be bd no fl tb ib bb (lW g tg ta (nI T) (nI C) (nI U) (nI V) rd ro lw pl pc gv aw nt ++ (Y ++ X)) (by omega) hby htb (nx_in (b := bb) hql) hf_6 (by omega)) q2_161 kX6_closes ⟨rfl, rfl⟩ ⟨Nat.le_of_ble_eq_true rfl, Nat.le_of_ble_eq_true rfl⟩ 0 rfl rfl rfl hl.1 rfl (Nat.le_of_ble_eq_true rfl) dX6_readsTown_29 ⟨Nat.le_of_ble_eq_true rfl, Nat.le_of_ble_eq_true rfl⟩) (fun r_8 w_9 H locs hw hB => ?_)
      obtain ⟨q9_10, e9_11, u9_12, hr9, hw9, hf_13, hf_14⟩ := hw
      have hr9 := hr9.symm
      subst hr9
      have hw9 := hw9.symm
      subst hw9
      refine z_bt (b := (decide (kd bb ln (nx bb ln (nx bb ln q)) = 3))) (tgt := 37) hE dX6_readsTown_32 (by decide) (fun c_15 => ?_) (fun c_15 => ?_)
      · have hc3 := of_decide_eq_true c_15
        have hq9 := hf_14.trans (if_pos hc3)
        subst hq9
        refine lv_aload_n hE.x hE.b dX6_readsTown_37 rfl (lv_at hl 1 rfl) ?_
        refine z_get (v := .ref tg) hE hB inX6 0 rfl rfl 2 (by decide) q2_73 (fun _ h9 => h9) rfl dX6_readsTown_38 ?_
        refine lv_iload_n hE.x hE.b dX6_readsTown_41 rfl (lv_at hl 0 rfl) ?_
        have hB := zB_perm hB (List.Perm.append_left _ (List.perm_append_comm_assoc _ _ _))
        have hB := zB_perm hB (List.perm_append_comm_assoc _ _ _)
        refine z_qv hB (z_cV hE hB (c_X4_addTown l g tg ta T C U V rd ro lw pl pc gv aw nt (nI (vl bb ln (nx bb ln q))) (rW rx tx (nI ln) tg (nI (nx bb ln (nx bb ln (nx bb ln q)))) e9_11 (nI (ctk (kd bb ln (nx bb ln (nx bb ln (nx bb ln q)))))) u9_12 ++ (xW g x9 d rr im tx lx ab be bd no fl tb ib ++ (Y ++ X))) (by omega)) q2_179 kX4_addTown ⟨rfl, rfl⟩ ⟨Nat.le_of_ble_eq_true rfl, Nat.le_of_ble_eq_true rfl⟩ 0 rfl rfl rfl hl.1 rfl (Nat.le_of_ble_eq_true rfl) dX6_readsTown_42 ⟨Nat.le_of_ble_eq_true rfl, Nat.le_of_ble_eq_true rfl⟩) (fun w_17 H locs hw hB => ?_)
        have hw9 := hw
        have hw9 := hw9.symm
        subst hw9
        refine lv_iconst (v := nI 1) hE.x hE.b dX6_readsTown_45 rfl ?_
        have hB := zB_perm hB (List.perm_append_comm_assoc _ _ _)
        have hB := zB_perm hB (List.Perm.append_left _ (List.perm_append_comm_assoc _ _ _))
        exact z_bret (b := true) (ws := rW rx tx (nI ln) tg (nI (nx bb ln (nx bb ln (nx bb ln q)))) e9_11 (nI (ctk (kd bb ln (nx bb ln (nx bb ln (nx bb ln q)))))) u9_12 ++ (xW g x9 d rr im tx lx ab be bd no fl tb ib ++ (lW g tg ta (nI (T + 1)) (nI C) (nI U) (nI V) (upd rd T (nI (vl bb ln (nx bb ln q)))) ro lw pl pc gv aw nt ++ (Y ++ X)))) hE hB hr (⟨(nx bb ln (nx bb ln (nx bb ln q))), (T + 1), C, (nTown n T (nI (vl bb ln (nx bb ln q)))), (upd rd T (nI (vl bb ln (nx bb ln q)))), ro, lw, Y, e9_11, u9_12, congrArg bI (ok_y (show (pTw bb ln n T C q) = .inr ((nx bb ln (nx bb ln q)), nTown n T (nI (vl bb ln (nx bb ln q))), T + 1, C) from by unfold pTw; rw [if_neg (by omega), if_pos c_7]) hc3), rfl, hf_13, (relL_town hrel (by omega)), (fun _ h => h), sR_y (show (pTw bb ln n T C q) = .inr ((nx bb ln (nx bb ln q)), nTown n T (nI (vl bb ln (nx bb ln q))), T + 1, C) from by unfold pTw; rw [if_neg (by omega), if_pos c_7]) hc3⟩) dX6_readsTown_46
      · have hc3 := of_decide_eq_false c_15
        have hq9 := hf_14.trans (if_neg hc3)
        subst hq9
        refine lv_iconst (v := nI 0) hE.x hE.b dX6_readsTown_35 rfl ?_
        exact z_bret (b := false) (ws := rW rx tx (nI ln) tg (nI (nx bb ln (nx bb ln q))) e9_11 (nI (ctk (kd bb ln (nx bb ln (nx bb ln q))))) u9_12 ++ (xW g x9 d rr im tx lx ab be bd no fl tb ib ++ (lW g tg ta (nI T) (nI C) (nI U) (nI V) rd ro lw pl pc gv aw nt ++ (Y ++ X)))) hE hB hr (⟨(nx bb ln (nx bb ln q)), T, C, n, rd, ro, lw, Y, e9_11, u9_12, congrArg bI (ok_n (show (pTw bb ln n T C q) = .inr ((nx bb ln (nx bb ln q)), nTown n T (nI (vl bb ln (nx bb ln q))), T + 1, C) from by unfold pTw; rw [if_neg (by omega), if_pos c_7]) hc3), rfl, hf_13, hrel, (fun _ h => h), sR_n (show (pTw bb ln n T C q) = .inr ((nx bb ln (nx bb ln q)), nTown n T (nI (vl bb ln (nx bb ln q))), T + 1, C) from by unfold pTw; rw [if_neg (by omega), if_pos c_7]) hc3⟩) dX6_readsTown_36
    · refine lv_iconst (v := nI 0) hE.x hE.b dX6_readsTown_21 rfl ?_
      exact z_bret (b := false) (ws := rW rx tx (nI ln) tg (nI (nx bb ln q)) e9_4 (nI (ctk (kd bb ln (nx bb ln q)))) u9_5 ++ (xW g x9 d rr im tx lx ab be bd no fl tb ib ++ (lW g tg ta (nI T) (nI C) (nI U) (nI V) rd ro lw pl pc gv aw nt ++ (Y ++ X)))) hE hB hr (⟨(nx bb ln q), T, C, n, rd, ro, lw, Y, e9_4, u9_5, congrArg bI (ok_l (show (pTw bb ln n T C q) = .inl (nx bb ln q) from by unfold pTw; rw [if_neg (by omega), if_neg (by rw [c_7]; decide)])), rfl, hf_6, hrel, (fun _ h => h), sR_l (show (pTw bb ln n T C q) = .inl (nx bb ln q) from by unfold pTw; rw [if_neg (by omega), if_neg (by rw [c_7]; decide)])⟩) dX6_readsTown_22

set_option maxHeartbeats 4000000 in
set_option maxRecDepth 100000 in
theorem c_X6_readsRoad (l : Launch) (g : zG) (rx : Nat) (tx : Nat) (tg : Nat) (ln : Nat) (q : Nat) (en : Int32) (nu : Int32) (x9 : Nat) (d : Nat) (rr : Nat) (im : Nat) (lx : Int32) (ab : Int32) (be : Int32) (bd : Int32) (no : Int32) (fl : Int32) (tb : Nat → Int32) (ib : Nat → Option Nat) (bb : Nat → Int32) (ta : Nat → Nat) (T : Nat) (C : Nat) (U : Nat) (V : Nat) (rd : Nat → Int32) (ro : Nat → Int32) (lw : Nat → Option Nat) (pl : Nat → Option Nat) (pc : Nat → Int32) (gv : Nat → Int32) (aw : Nat → Int32) (nt : Nat → Int32) (n : Nat → Int32) (Y : va_W) (X : va_W) (hln : ln ≤ 150) (hby : byOK bb ln) (htb : ∀ i, i < ln → tb i = bb i) (hql : q ≤ ln) (hrd : rdK bb ln q en nu) (hpk : pK n T C) (hrel : relL n T C U V rd ro lw pl pc gv Y) (hkw : kd bb ln q = 1) : Met l yX6_readsRoad (Cond.code yX6_readsRoad cX6_readsRoad 4 (some .boolean) :: TBL) { frames := 3, cells := 0, slots := 0, locals := 62 } (zPc [.ref rx] g (rW rx tx (nI ln) tg (nI q) en (nI (ctk (kd bb ln q))) nu ++ (xW g x9 d rr im tx lx ab be bd no fl tb ib ++ (lW g tg ta (nI T) (nI C) (nI U) (nI V) rd ro lw pl pc gv aw nt ++ (Y ++ X))))) (zQi g (fun r ws => ∃ (q9 : Nat) (T9 : Nat) (C9 : Nat) (n9 : Nat → Int32) (rd9 : Nat → Int32) (ro9 : Nat → Int32) (lw9 : Nat → Option Nat) (Y9 : va_W) (e9 : Int32) (u9 : Int32), r = bI (okI bb ln (pRd bb ln n T C q)) ∧ ws = rW rx tx (nI ln) tg (nI q9) e9 (nI (ctk (kd bb ln q9))) u9 ++ (xW g x9 d rr im tx lx ab be bd no fl tb ib ++ (lW g tg ta (nI T9) (nI C9) (nI U) (nI V) rd9 ro9 lw9 pl pc gv aw nt ++ (Y9 ++ X))) ∧ rdK bb ln q9 e9 u9 ∧ relL n9 T9 C9 U V rd9 ro9 lw9 pl pc gv Y9 ∧ (∀ x ∈ Y, x ∈ Y9) ∧ (q9, n9, T9, C9) = sR bb ln (pRd bb ln n T C q) n T C)) 0 0 (zA (gz g)) := by
  refine z_start (by decide +kernel) rfl (Nat.le_of_ble_eq_true rfl) ?_
  intro p e s m args below meth c ls hE hr hnm hB hl
  have hl : lv_has ls 4 [(0, .ref rx)] := hl
  revert hB
  generalize s.heap = H
  generalize ([] : List Loc) = locs
  intro hB
  have hT6 := hpk.2.1
  have hC8 := hpk.2.2.2
  refine lv_aload_n hE.x hE.b dX6_readsRoad_0 rfl (lv_at hl 0 rfl) ?_
  refine lv_iconst (v := nI 0) hE.x hE.b dX6_readsRoad_1 rfl ?_
  refine lv_aload_n hE.x hE.b dX6_readsRoad_2 rfl (lv_at hl 0 rfl) ?_
  refine z_get (v := .ref tg) hE hB inX6 0 rfl rfl 2 (by decide) q2_73 (fun _ h9 => h9) rfl dX6_readsRoad_3 ?_
  refine z_get (v := .int (nI T)) hE hB inX4 4 rfl rfl 0 (by decide) q1_35 (fun _ h9 => h9) rfl dX6_readsRoad_6 ?_
  refine lv_iconst (v := nI 1) hE.x hE.b dX6_readsRoad_9 rfl ?_
  refine lv_isub hE.x hE.b dX6_readsRoad_10 ?_
  obtain ⟨tm1, htm1, etm1⟩ : ∃ z : Int32, z.toInt = (T : Int) - 1 ∧ nI T - nI 1 = z := ⟨_, sub1_toInt (by omega), rfl⟩
  refine z_top (y := tm1) etm1 ?_
  refine z_qi hB (z_cV hE hB (c_X6_takes l g rx tx tg ln q en nu x9 d rr im lx ab be bd no fl tb ib bb (nI 0) tm1 (0 : Int) ((T : Int) - 1) (lW g tg ta (nI T) (nI C) (nI U) (nI V) rd ro lw pl pc gv aw nt ++ (Y ++ X)) (by omega) hby htb hql hrd (by omega) rfl htm1) q2_174 kX6_takes ⟨rfl, rfl⟩ ⟨Nat.le_of_ble_eq_true rfl, Nat.le_of_ble_eq_true rfl⟩ 0 rfl rfl rfl hl.1 rfl (Nat.le_of_ble_eq_true rfl) dX6_readsRoad_11 ⟨Nat.le_of_ble_eq_true rfl, Nat.le_of_ble_eq_true rfl⟩) (fun r_1 w_2 H locs hw hB => ?_)
  obtain ⟨e9_3, u9_4, hr9, hw9, hf_5⟩ := hw
  have hr9 := hr9.symm
  subst hr9
  have hw9 := hw9.symm
  subst hw9
  refine z_bt (b := (tkB bb ln (nx bb ln q) (0 : Int) ((T : Int) - 1))) (tgt := 19) hE dX6_readsRoad_14 (by decide) (fun c_6 => ?_) (fun c_6 => ?_)
  · have htr1 := tkB_r c_6
    have hvl1 := vl_99 (b := bb) (ln := ln) (q := (nx bb ln q))
    have hu9 := hf_5.2 htr1.1
    subst hu9
    refine lv_aload_n hE.x hE.b dX6_readsRoad_19 rfl (lv_at hl 0 rfl) ?_
    refine z_get (v := .int (nI (vl bb ln (nx bb ln q)))) hE hB inX6 0 rfl rfl 6 (by decide) q2_78 (fun _ h9 => h9) rfl dX6_readsRoad_20 ?_
    refine lv_istore_n (lv' := [(1, .int (nI (vl bb ln (nx bb ln q)))), (0, .ref rx)]) hE.x hE.b dX6_readsRoad_23 rfl hl (by decide) rfl (fun ls hl => ?_)
    refine lv_aload_n hE.x hE.b dX6_readsRoad_24 rfl (lv_at hl 1 rfl) ?_
    refine lv_iconst (v := nI 0) hE.x hE.b dX6_readsRoad_25 rfl ?_
    refine lv_aload_n hE.x hE.b dX6_readsRoad_26 rfl (lv_at hl 1 rfl) ?_
    refine z_get (v := .ref tg) hE hB inX6 0 rfl rfl 2 (by decide) q2_73 (fun _ h9 => h9) rfl dX6_readsRoad_27 ?_
    refine z_get (v := .int (nI T)) hE hB inX4 4 rfl rfl 0 (by decide) q1_35 (fun _ h9 => h9) rfl dX6_readsRoad_30 ?_
    refine lv_iconst (v := nI 1) hE.x hE.b dX6_readsRoad_33 rfl ?_
    refine lv_isub hE.x hE.b dX6_readsRoad_34 ?_
    obtain ⟨tm2, htm2, etm2⟩ : ∃ z : Int32, z.toInt = (T : Int) - 1 ∧ nI T - nI 1 = z := ⟨_, sub1_toInt (by omega), rfl⟩
    refine z_top (y := tm2) etm2 ?_
    refine z_qi hB (z_cV hE hB (c_X6_takes l g rx tx tg ln (nx bb ln q) e9_3 (nI (vl bb ln (nx bb ln q))) x9 d rr im lx ab be bd no fl tb ib bb (nI 0) tm2 (0 : Int) ((T : Int) - 1) (lW g tg ta (nI T) (nI C) (nI U) (nI V) rd ro lw pl pc gv aw nt ++ (Y ++ X)) (by omega) hby htb (nx_in (b := bb) hql) hf_5 (by omega) rfl htm2) q2_174 kX6_takes ⟨rfl, rfl⟩ ⟨Nat.le_of_ble_eq_true rfl, Nat.le_of_ble_eq_true rfl⟩ 0 rfl rfl rfl hl.1 rfl (Nat.le_of_ble_eq_true rfl) dX6_readsRoad_35 ⟨Nat.le_of_ble_eq_true rfl, Nat.le_of_ble_eq_true rfl⟩) (fun r_7 w_8 H locs hw hB => ?_)
    obtain ⟨e9_9, u9_10, hr9, hw9, hf_11⟩ := hw
    have hr9 := hr9.symm
    subst hr9
    have hw9 := hw9.symm
    subst hw9
    refine z_bf (b := (tkB bb ln (nx bb ln (nx bb ln q)) (0 : Int) ((T : Int) - 1))) (tgt := 49) hE dX6_readsRoad_38 (by decide) (fun c_12 => ?_) (fun c_12 => ?_)
    · refine lv_iconst (v := nI 0) hE.x hE.b dX6_readsRoad_49 rfl ?_
      exact z_bret (b := false) (ws := rW rx tx (nI ln) tg (nI (nx bb ln (nx bb ln q))) e9_9 (nI (ctk (kd bb ln (nx bb ln (nx bb ln q))))) u9_10 ++ (xW g x9 d rr im tx lx ab be bd no fl tb ib ++ (lW g tg ta (nI T) (nI C) (nI U) (nI V) rd ro lw pl pc gv aw nt ++ (Y ++ X)))) hE hB hr (⟨(nx bb ln (nx bb ln q)), T, C, n, rd, ro, lw, Y, e9_9, u9_10, congrArg bI (ok_l (show (pRd bb ln n T C q) = .inl (nx bb ln (nx bb ln q)) from by unfold pRd; simp only; rw [if_pos c_6]; by_cases h9 : kd bb ln (nx bb ln (nx bb ln q)) = 2 ∧ vl bb ln (nx bb ln (nx bb ln q)) = vl bb ln (nx bb ln q); rw [if_pos h9]; rw [if_neg h9, if_neg (by rw [c_12]; decide)])), rfl, hf_11, hrel, (fun _ h => h), sR_l (show (pRd bb ln n T C q) = .inl (nx bb ln (nx bb ln q)) from by unfold pRd; simp only; rw [if_pos c_6]; by_cases h9 : kd bb ln (nx bb ln (nx bb ln q)) = 2 ∧ vl bb ln (nx bb ln (nx bb ln q)) = vl bb ln (nx bb ln q); rw [if_pos h9]; rw [if_neg h9, if_neg (by rw [c_12]; decide)])⟩) dX6_readsRoad_50
    · have htr2 := tkB_r c_12
      have hvl2 := vl_99 (b := bb) (ln := ln) (q := (nx bb ln (nx bb ln q)))
      have hu9 := hf_11.2 htr2.1
      subst hu9
      refine lv_aload_n hE.x hE.b dX6_readsRoad_41 rfl (lv_at hl 1 rfl) ?_
      refine z_get (v := .int (nI (vl bb ln (nx bb ln (nx bb ln q))))) hE hB inX6 0 rfl rfl 6 (by decide) q2_78 (fun _ h9 => h9) rfl dX6_readsRoad_42 ?_
      refine lv_iload_n hE.x hE.b dX6_readsRoad_45 rfl (lv_at hl 0 rfl) ?_
      refine z_ne (tgt := 51) (X := (((vl bb ln (nx bb ln (nx bb ln q))) : Nat) : Int)) (Y := (((vl bb ln (nx bb ln q)) : Nat) : Int)) hE dX6_readsRoad_46 (by decide) (nI_toInt (n := (vl bb ln (nx bb ln (nx bb ln q)))) (by omega)) (nI_toInt (n := (vl bb ln (nx bb ln q))) (by omega)) (fun c_13 => ?_) (fun c_13 => ?_)
      · refine lv_aload_n hE.x hE.b dX6_readsRoad_51 rfl (lv_at hl 1 rfl) ?_
        refine z_get (v := .int (nI (vl bb ln (nx bb ln (nx bb ln q))))) hE hB inX6 0 rfl rfl 6 (by decide) q2_78 (fun _ h9 => h9) rfl dX6_readsRoad_52 ?_
        refine lv_istore_n (lv' := [(2, .int (nI (vl bb ln (nx bb ln (nx bb ln q))))), (1, .int (nI (vl bb ln (nx bb ln q)))), (0, .ref rx)]) hE.x hE.b dX6_readsRoad_55 rfl hl (by decide) rfl (fun ls hl => ?_)
        refine lv_aload_n hE.x hE.b dX6_readsRoad_56 rfl (lv_at hl 2 rfl) ?_
        refine lv_iconst (v := nI 1) hE.x hE.b dX6_readsRoad_57 rfl ?_
        refine lv_bipush (v := (nI 9)) hE.x hE.b dX6_readsRoad_58 rfl ?_
        refine z_qi hB (z_cV hE hB (c_X6_takes l g rx tx tg ln (nx bb ln (nx bb ln q)) e9_9 (nI (vl bb ln (nx bb ln (nx bb ln q)))) x9 d rr im lx ab be bd no fl tb ib bb (nI 1) (nI 9) (1 : Int) (9 : Int) (lW g tg ta (nI T) (nI C) (nI U) (nI V) rd ro lw pl pc gv aw nt ++ (Y ++ X)) (by omega) hby htb (nx_in (b := bb) (nx_in (b := bb) hql)) hf_11 (by omega) rfl rfl) q2_174 kX6_takes ⟨rfl, rfl⟩ ⟨Nat.le_of_ble_eq_true rfl, Nat.le_of_ble_eq_true rfl⟩ 0 rfl rfl rfl hl.1 rfl (Nat.le_of_ble_eq_true rfl) dX6_readsRoad_60 ⟨Nat.le_of_ble_eq_true rfl, Nat.le_of_ble_eq_true rfl⟩) (fun r_14 w_15 H locs hw hB => ?_)
        obtain ⟨e9_16, u9_17, hr9, hw9, hf_18⟩ := hw
        have hr9 := hr9.symm
        subst hr9
        have hw9 := hw9.symm
        subst hw9
        refine z_bt (b := (tkB bb ln (nx bb ln (nx bb ln (nx bb ln q))) (1 : Int) (9 : Int))) (tgt := 68) hE dX6_readsRoad_63 (by decide) (fun c_19 => ?_) (fun c_19 => ?_)
        · have htr3 := tkB_r c_19
          have hvl3 := vl_99 (b := bb) (ln := ln) (q := (nx bb ln (nx bb ln (nx bb ln q))))
          have hu9 := hf_18.2 htr3.1
          subst hu9
          refine lv_aload_n hE.x hE.b dX6_readsRoad_68 rfl (lv_at hl 2 rfl) ?_
          refine z_get (v := .int (nI (vl bb ln (nx bb ln (nx bb ln (nx bb ln q)))))) hE hB inX6 0 rfl rfl 6 (by decide) q2_78 (fun _ h9 => h9) rfl dX6_readsRoad_69 ?_
          refine lv_istore_n (lv' := [(3, .int (nI (vl bb ln (nx bb ln (nx bb ln (nx bb ln q)))))), (2, .int (nI (vl bb ln (nx bb ln (nx bb ln q))))), (1, .int (nI (vl bb ln (nx bb ln q)))), (0, .ref rx)]) hE.x hE.b dX6_readsRoad_72 rfl hl (by decide) rfl (fun ls hl => ?_)
          refine lv_aload_n hE.x hE.b dX6_readsRoad_73 rfl (lv_at hl 3 rfl) ?_
          refine z_qi hB (z_cV hE hB (c_X6_closes l g rx tx tg ln (nx bb ln (nx bb ln (nx bb ln q))) e9_16 (nI (vl bb ln (nx bb ln (nx bb ln (nx bb ln q))))) x9 d rr im lx ab be bd no fl tb ib bb (lW g tg ta (nI T) (nI C) (nI U) (nI V) rd ro lw pl pc gv aw nt ++ (Y ++ X)) (by omega) hby htb (nx_in (b := bb) (nx_in (b := bb) (nx_in (b := bb) hql))) hf_18 (by omega)) q2_161 kX6_closes ⟨rfl, rfl⟩ ⟨Nat.le_of_ble_eq_true rfl, Nat.le_of_ble_eq_true rfl⟩ 0 rfl rfl rfl hl.1 rfl (Nat.le_of_ble_eq_true rfl) dX6_readsRoad_74 ⟨Nat.le_of_ble_eq_true rfl, Nat.le_of_ble_eq_true rfl⟩) (fun r_20 w_21 H locs hw hB => ?_)
          obtain ⟨q9_22, e9_23, u9_24, hr9, hw9, hf_25, hf_26⟩ := hw
          have hr9 := hr9.symm
          subst hr9
          have hw9 := hw9.symm
          subst hw9
          refine z_bt (b := (decide (kd bb ln (nx bb ln (nx bb ln (nx bb ln (nx bb ln q)))) = 3))) (tgt := 82) hE dX6_readsRoad_77 (by decide) (fun c_27 => ?_) (fun c_27 => ?_)
          · have hc3 := of_decide_eq_true c_27
            have hq9 := hf_26.trans (if_pos hc3)
            subst hq9
            refine lv_aload_n hE.x hE.b dX6_readsRoad_82 rfl (lv_at hl 3 rfl) ?_
            refine z_get (v := .ref tg) hE hB inX6 0 rfl rfl 2 (by decide) q2_73 (fun _ h9 => h9) rfl dX6_readsRoad_83 ?_
            refine lv_iload_n hE.x hE.b dX6_readsRoad_86 rfl (lv_at hl 2 rfl) ?_
            refine lv_iload_n hE.x hE.b dX6_readsRoad_87 rfl (lv_at hl 1 rfl) ?_
            refine lv_iload_n hE.x hE.b dX6_readsRoad_88 rfl (lv_at hl 0 rfl) ?_
            have hB := zB_perm hB (List.Perm.append_left _ (List.perm_append_comm_assoc _ _ _))
            have hB := zB_perm hB (List.perm_append_comm_assoc _ _ _)
            refine z_qv hB (z_cV hE hB (c_X4_setRoad l g tg ta T C U V rd ro lw pl pc gv aw nt (vl bb ln (nx bb ln q)) (vl bb ln (nx bb ln (nx bb ln q))) (nI (vl bb ln (nx bb ln (nx bb ln (nx bb ln q))))) (rW rx tx (nI ln) tg (nI (nx bb ln (nx bb ln (nx bb ln (nx bb ln (nx bb ln q)))))) e9_23 (nI (ctk (kd bb ln (nx bb ln (nx bb ln (nx bb ln (nx bb ln (nx bb ln q)))))))) u9_24 ++ (xW g x9 d rr im tx lx ab be bd no fl tb ib ++ (Y ++ X))) (by omega) (by omega)) q2_185 kX4_setRoad ⟨rfl, rfl⟩ ⟨Nat.le_of_ble_eq_true rfl, Nat.le_of_ble_eq_true rfl⟩ 0 rfl rfl rfl hl.1 rfl (Nat.le_of_ble_eq_true rfl) dX6_readsRoad_89 ⟨Nat.le_of_ble_eq_true rfl, Nat.le_of_ble_eq_true rfl⟩) (fun w_29 H locs hw hB => ?_)
            have hw9 := hw
            have hw9 := hw9.symm
            subst hw9
            refine lv_iconst (v := nI 1) hE.x hE.b dX6_readsRoad_92 rfl ?_
            have hB := zB_perm hB (List.perm_append_comm_assoc _ _ _)
            have hB := zB_perm hB (List.Perm.append_left _ (List.perm_append_comm_assoc _ _ _))
            exact z_bret (b := true) (ws := rW rx tx (nI ln) tg (nI (nx bb ln (nx bb ln (nx bb ln (nx bb ln (nx bb ln q)))))) e9_23 (nI (ctk (kd bb ln (nx bb ln (nx bb ln (nx bb ln (nx bb ln (nx bb ln q)))))))) u9_24 ++ (xW g x9 d rr im tx lx ab be bd no fl tb ib ++ (lW g tg ta (nI T) (nI C) (nI U) (nI V) rd (upd (upd ro (6 * (vl bb ln (nx bb ln q)) + (vl bb ln (nx bb ln (nx bb ln q)))) (nI (vl bb ln (nx bb ln (nx bb ln (nx bb ln q)))))) (6 * (vl bb ln (nx bb ln (nx bb ln q))) + (vl bb ln (nx bb ln q))) (nI (vl bb ln (nx bb ln (nx bb ln (nx bb ln q)))))) lw pl pc gv aw nt ++ (Y ++ X)))) hE hB hr (⟨(nx bb ln (nx bb ln (nx bb ln (nx bb ln (nx bb ln q))))), T, C, (nRoad n (vl bb ln (nx bb ln q)) (vl bb ln (nx bb ln (nx bb ln q))) (nI (vl bb ln (nx bb ln (nx bb ln (nx bb ln q)))))), rd, (upd (upd ro (6 * (vl bb ln (nx bb ln q)) + (vl bb ln (nx bb ln (nx bb ln q)))) (nI (vl bb ln (nx bb ln (nx bb ln (nx bb ln q)))))) (6 * (vl bb ln (nx bb ln (nx bb ln q))) + (vl bb ln (nx bb ln q))) (nI (vl bb ln (nx bb ln (nx bb ln (nx bb ln q)))))), lw, Y, e9_23, u9_24, congrArg bI (ok_y (show (pRd bb ln n T C q) = .inr ((nx bb ln (nx bb ln (nx bb ln (nx bb ln q)))), nRoad n (vl bb ln (nx bb ln q)) (vl bb ln (nx bb ln (nx bb ln q))) (nI (vl bb ln (nx bb ln (nx bb ln (nx bb ln q))))), T, C) from by unfold pRd; simp only; rw [if_pos c_6, if_neg (fun z => by omega), if_pos c_12, if_pos c_19]) hc3), rfl, hf_25, (relL_road hrel (by omega) (by omega) (by omega)), (fun _ h => h), sR_y (show (pRd bb ln n T C q) = .inr ((nx bb ln (nx bb ln (nx bb ln (nx bb ln q)))), nRoad n (vl bb ln (nx bb ln q)) (vl bb ln (nx bb ln (nx bb ln q))) (nI (vl bb ln (nx bb ln (nx bb ln (nx bb ln q))))), T, C) from by unfold pRd; simp only; rw [if_pos c_6, if_neg (fun z => by omega), if_pos c_12, if_pos c_19]) hc3⟩) dX6_readsRoad_93
          · have hc3 := of_decide_eq_false c_27
            have hq9 := hf_26.trans (if_neg hc3)
            subst hq9
            refine lv_iconst (v := nI 0) hE.x hE.b dX6_readsRoad_80 rfl ?_
            exact z_bret (b := false) (ws := rW rx tx (nI ln) tg (nI (nx bb ln (nx bb ln (nx bb ln (nx bb ln q))))) e9_23 (nI (ctk (kd bb ln (nx bb ln (nx bb ln (nx bb ln (nx bb ln q))))))) u9_24 ++ (xW g x9 d rr im tx lx ab be bd no fl tb ib ++ (lW g tg ta (nI T) (nI C) (nI U) (nI V) rd ro lw pl pc gv aw nt ++ (Y ++ X)))) hE hB hr (⟨(nx bb ln (nx bb ln (nx bb ln (nx bb ln q)))), T, C, n, rd, ro, lw, Y, e9_23, u9_24, congrArg bI (ok_n (show (pRd bb ln n T C q) = .inr ((nx bb ln (nx bb ln (nx bb ln (nx bb ln q)))), nRoad n (vl bb ln (nx bb ln q)) (vl bb ln (nx bb ln (nx bb ln q))) (nI (vl bb ln (nx bb ln (nx bb ln (nx bb ln q))))), T, C) from by unfold pRd; simp only; rw [if_pos c_6, if_neg (fun z => by omega), if_pos c_12, if_pos c_19]) hc3), rfl, hf_25, hrel, (fun _ h => h), sR_n (show (pRd bb ln n T C q) = .inr ((nx bb ln (nx bb ln (nx bb ln (nx bb ln q)))), nRoad n (vl bb ln (nx bb ln q)) (vl bb ln (nx bb ln (nx bb ln q))) (nI (vl bb ln (nx bb ln (nx bb ln (nx bb ln q))))), T, C) from by unfold pRd; simp only; rw [if_pos c_6, if_neg (fun z => by omega), if_pos c_12, if_pos c_19]) hc3⟩) dX6_readsRoad_81
        · refine lv_iconst (v := nI 0) hE.x hE.b dX6_readsRoad_66 rfl ?_
          exact z_bret (b := false) (ws := rW rx tx (nI ln) tg (nI (nx bb ln (nx bb ln (nx bb ln q)))) e9_16 (nI (ctk (kd bb ln (nx bb ln (nx bb ln (nx bb ln q)))))) u9_17 ++ (xW g x9 d rr im tx lx ab be bd no fl tb ib ++ (lW g tg ta (nI T) (nI C) (nI U) (nI V) rd ro lw pl pc gv aw nt ++ (Y ++ X)))) hE hB hr (⟨(nx bb ln (nx bb ln (nx bb ln q))), T, C, n, rd, ro, lw, Y, e9_16, u9_17, congrArg bI (ok_l (show (pRd bb ln n T C q) = .inl (nx bb ln (nx bb ln (nx bb ln q))) from by unfold pRd; simp only; rw [if_pos c_6, if_neg (fun z => by omega), if_pos c_12, if_neg (by rw [c_19]; decide)])), rfl, hf_18, hrel, (fun _ h => h), sR_l (show (pRd bb ln n T C q) = .inl (nx bb ln (nx bb ln (nx bb ln q))) from by unfold pRd; simp only; rw [if_pos c_6, if_neg (fun z => by omega), if_pos c_12, if_neg (by rw [c_19]; decide)])⟩) dX6_readsRoad_67
      · refine lv_iconst (v := nI 0) hE.x hE.b dX6_readsRoad_49 rfl ?_
        exact z_bret (b := false) (ws := rW rx tx (nI ln) tg (nI (nx bb ln (nx bb ln q))) e9_9 (nI (ctk (kd bb ln (nx bb ln (nx bb ln q))))) (nI (vl bb ln (nx bb ln (nx bb ln q)))) ++ (xW g x9 d rr im tx lx ab be bd no fl tb ib ++ (lW g tg ta (nI T) (nI C) (nI U) (nI V) rd ro lw pl pc gv aw nt ++ (Y ++ X)))) hE hB hr (⟨(nx bb ln (nx bb ln q)), T, C, n, rd, ro, lw, Y, e9_9, (nI (vl bb ln (nx bb ln (nx bb ln q)))), congrArg bI (ok_l (show (pRd bb ln n T C q) = .inl (nx bb ln (nx bb ln q)) from by unfold pRd; simp only; rw [if_pos c_6, if_pos ⟨by omega, by omega⟩])), rfl, hf_11, hrel, (fun _ h => h), sR_l (show (pRd bb ln n T C q) = .inl (nx bb ln (nx bb ln q)) from by unfold pRd; simp only; rw [if_pos c_6, if_pos ⟨by omega, by omega⟩])⟩) dX6_readsRoad_50
  · refine lv_iconst (v := nI 0) hE.x hE.b dX6_readsRoad_17 rfl ?_
    exact z_bret (b := false) (ws := rW rx tx (nI ln) tg (nI (nx bb ln q)) e9_3 (nI (ctk (kd bb ln (nx bb ln q)))) u9_4 ++ (xW g x9 d rr im tx lx ab be bd no fl tb ib ++ (lW g tg ta (nI T) (nI C) (nI U) (nI V) rd ro lw pl pc gv aw nt ++ (Y ++ X)))) hE hB hr (⟨(nx bb ln q), T, C, n, rd, ro, lw, Y, e9_3, u9_4, congrArg bI (ok_l (show (pRd bb ln n T C q) = .inl (nx bb ln q) from by unfold pRd; simp only; rw [if_neg (by rw [c_6]; decide)])), rfl, hf_5, hrel, (fun _ h => h), sR_l (show (pRd bb ln n T C q) = .inl (nx bb ln q) from by unfold pRd; simp only; rw [if_neg (by rw [c_6]; decide)])⟩) dX6_readsRoad_18

set_option maxHeartbeats 4000000 in
set_option maxRecDepth 100000 in
theorem c_X6_readsClause (l : Launch) (g : zG) (rx : Nat) (tx : Nat) (tg : Nat) (ln : Nat) (q : Nat) (en : Int32) (nu : Int32) (x9 : Nat) (d : Nat) (rr : Nat) (im : Nat) (lx : Int32) (ab : Int32) (be : Int32) (bd : Int32) (no : Int32) (fl : Int32) (tb : Nat → Int32) (ib : Nat → Option Nat) (bb : Nat → Int32) (ta : Nat → Nat) (T : Nat) (C : Nat) (U : Nat) (V : Nat) (rd : Nat → Int32) (ro : Nat → Int32) (lw : Nat → Option Nat) (pl : Nat → Option Nat) (pc : Nat → Int32) (gv : Nat → Int32) (aw : Nat → Int32) (nt : Nat → Int32) (n : Nat → Int32) (Y : va_W) (X : va_W) (hln : ln ≤ 150) (hby : byOK bb ln) (htb : ∀ i, i < ln → tb i = bb i) (hql : q ≤ ln) (hrd : rdK bb ln q en nu) (hpk : pK n T C) (hrel : relL n T C U V rd ro lw pl pc gv Y) (hkw : kd bb ln q = 1) : Met l yX6_readsClause (Cond.code yX6_readsClause cX6_readsClause 6 (some .boolean) :: TBL) { frames := 6, cells := 1, slots := 5, locals := 136 } (zPc [.ref rx] g (rW rx tx (nI ln) tg (nI q) en (nI (ctk (kd bb ln q))) nu ++ (xW g x9 d rr im tx lx ab be bd no fl tb ib ++ (lW g tg ta (nI T) (nI C) (nI U) (nI V) rd ro lw pl pc gv aw nt ++ (Y ++ X))))) (zQi g (fun r ws => ∃ (q9 : Nat) (T9 : Nat) (C9 : Nat) (n9 : Nat → Int32) (rd9 : Nat → Int32) (ro9 : Nat → Int32) (lw9 : Nat → Option Nat) (Y9 : va_W) (e9 : Int32) (u9 : Int32), r = bI (okI bb ln (pCl bb ln n T C q)) ∧ ws = rW rx tx (nI ln) tg (nI q9) e9 (nI (ctk (kd bb ln q9))) u9 ++ (xW g x9 d rr im tx lx ab be bd no fl tb ib ++ (lW g tg ta (nI T9) (nI C9) (nI U) (nI V) rd9 ro9 lw9 pl pc gv aw nt ++ (Y9 ++ X))) ∧ rdK bb ln q9 e9 u9 ∧ relL n9 T9 C9 U V rd9 ro9 lw9 pl pc gv Y9 ∧ (∀ x ∈ Y, x ∈ Y9) ∧ (q9, n9, T9, C9) = sR bb ln (pCl bb ln n T C q) n T C)) 1 5 (zA (gz g)) := by
  refine z_start (by decide +kernel) rfl (Nat.le_of_ble_eq_true rfl) ?_
  intro p e s m args below meth c ls hE hr hnm hB hl
  have hl : lv_has ls 6 [(0, .ref rx)] := hl
  revert hB
  generalize s.heap = H
  generalize ([] : List Loc) = locs
  intro hB
  have hT6 := hpk.2.1
  have hC8 := hpk.2.2.2
  refine lv_aload_n hE.x hE.b dX6_readsClause_0 rfl (lv_at hl 0 rfl) ?_
  refine z_get (v := .ref tg) hE hB inX6 0 rfl rfl 2 (by decide) q2_73 (fun _ h9 => h9) rfl dX6_readsClause_1 ?_
  refine z_get (v := .int (nI C)) hE hB inX4 4 rfl rfl 1 (by decide) q1_38 (fun _ h9 => h9) rfl dX6_readsClause_4 ?_
  refine lv_bipush (v := (nI 8)) hE.x hE.b dX6_readsClause_7 rfl ?_
  refine z_ge (tgt := 21) (X := ((C : Nat) : Int)) (Y := (8 : Int)) hE dX6_readsClause_9 (by decide) (nI_toInt (n := C) (by omega)) rfl (fun c_1 => ?_) (fun c_1 => ?_)
  · refine lv_iconst (v := nI 0) hE.x hE.b dX6_readsClause_21 rfl ?_
    refine W.widen (k := 1) (n := 5) (by omega) (by omega) ?_
    exact z_bret (b := false) (ws := rW rx tx (nI ln) tg (nI q) en (nI (ctk (kd bb ln q))) nu ++ (xW g x9 d rr im tx lx ab be bd no fl tb ib ++ (lW g tg ta (nI T) (nI C) (nI U) (nI V) rd ro lw pl pc gv aw nt ++ (Y ++ X)))) hE hB hr (⟨q, T, C, n, rd, ro, lw, Y, en, nu, congrArg bI (ok_l (show (pCl bb ln n T C q) = .inl q from by unfold pCl; simp only; rw [if_pos (by omega)])), rfl, hrd, hrel, (fun _ h => h), sR_l (show (pCl bb ln n T C q) = .inl q from by unfold pCl; simp only; rw [if_pos (by omega)])⟩) dX6_readsClause_22
  · refine lv_aload_n hE.x hE.b dX6_readsClause_12 rfl (lv_at hl 0 rfl) ?_
    refine lv_iconst (v := nI 0) hE.x hE.b dX6_readsClause_13 rfl ?_
    refine lv_iconst (v := nI 5) hE.x hE.b dX6_readsClause_14 rfl ?_
    refine z_qi hB (z_cV hE hB (c_X6_takes l g rx tx tg ln q en nu x9 d rr im lx ab be bd no fl tb ib bb (nI 0) (nI 5) (0 : Int) (5 : Int) (lW g tg ta (nI T) (nI C) (nI U) (nI V) rd ro lw pl pc gv aw nt ++ (Y ++ X)) (by omega) hby htb hql hrd (by omega) rfl rfl) q2_174 kX6_takes ⟨rfl, rfl⟩ ⟨Nat.le_of_ble_eq_true rfl, Nat.le_of_ble_eq_true rfl⟩ 0 rfl rfl rfl hl.1 rfl (Nat.le_of_ble_eq_true rfl) dX6_readsClause_15 ⟨Nat.le_of_ble_eq_true rfl, Nat.le_of_ble_eq_true rfl⟩) (fun r_2 w_3 H locs hw hB => ?_)
    obtain ⟨e9_4, u9_5, hr9, hw9, hf_6⟩ := hw
    have hr9 := hr9.symm
    subst hr9
    have hw9 := hw9.symm
    subst hw9
    refine z_bt (b := (tkB bb ln (nx bb ln q) (0 : Int) (5 : Int))) (tgt := 23) hE dX6_readsClause_18 (by decide) (fun c_7 => ?_) (fun c_7 => ?_)
    · have htr1 := tkB_r c_7
      have hvl1 := vl_99 (b := bb) (ln := ln) (q := (nx bb ln q))
      have hu9 := hf_6.2 htr1.1
      subst hu9
      refine lv_aload_n hE.x hE.b dX6_readsClause_23 rfl (lv_at hl 0 rfl) ?_
      refine z_get (v := .int (nI (vl bb ln (nx bb ln q)))) hE hB inX6 0 rfl rfl 6 (by decide) q2_78 (fun _ h9 => h9) rfl dX6_readsClause_24 ?_
      refine lv_istore_n (lv' := [(1, .int (nI (vl bb ln (nx bb ln q)))), (0, .ref rx)]) hE.x hE.b dX6_readsClause_27 rfl hl (by decide) rfl (fun ls hl => ?_)
      refine lv_aload_n hE.x hE.b dX6_readsClause_28 rfl (lv_at hl 1 rfl) ?_
      refine lv_iconst (v := nI 0) hE.x hE.b dX6_readsClause_29 rfl ?_
      refine lv_iconst (v := nI 5) hE.x hE.b dX6_readsClause_30 rfl ?_
      refine z_qi hB (z_cV hE hB (c_X6_takes l g rx tx tg ln (nx bb ln q) e9_4 (nI (vl bb ln (nx bb ln q))) x9 d rr im lx ab be bd no fl tb ib bb (nI 0) (nI 5) (0 : Int) (5 : Int) (lW g tg ta (nI T) (nI C) (nI U) (nI V) rd ro lw pl pc gv aw nt ++ (Y ++ X)) (by omega) hby htb (nx_in (b := bb) hql) hf_6 (by omega) rfl rfl) q2_174 kX6_takes ⟨rfl, rfl⟩ ⟨Nat.le_of_ble_eq_true rfl, Nat.le_of_ble_eq_true rfl⟩ 0 rfl rfl rfl hl.1 rfl (Nat.le_of_ble_eq_true rfl) dX6_readsClause_31 ⟨Nat.le_of_ble_eq_true rfl, Nat.le_of_ble_eq_true rfl⟩) (fun r_8 w_9 H locs hw hB => ?_)
      obtain ⟨e9_10, u9_11, hr9, hw9, hf_12⟩ := hw
      have hr9 := hr9.symm
      subst hr9
      have hw9 := hw9.symm
      subst hw9
      refine z_bt (b := (tkB bb ln (nx bb ln (nx bb ln q)) (0 : Int) (5 : Int))) (tgt := 39) hE dX6_readsClause_34 (by decide) (fun c_13 => ?_) (fun c_13 => ?_)
      · have htr2 := tkB_r c_13
        have hvl2 := vl_99 (b := bb) (ln := ln) (q := (nx bb ln (nx bb ln q)))
        have hu9 := hf_12.2 htr2.1
        subst hu9
        refine lv_aload_n hE.x hE.b dX6_readsClause_39 rfl (lv_at hl 1 rfl) ?_
        refine z_get (v := .int (nI (vl bb ln (nx bb ln (nx bb ln q))))) hE hB inX6 0 rfl rfl 6 (by decide) q2_78 (fun _ h9 => h9) rfl dX6_readsClause_40 ?_
        refine lv_istore_n (lv' := [(2, .int (nI (vl bb ln (nx bb ln (nx bb ln q))))), (1, .int (nI (vl bb ln (nx bb ln q)))), (0, .ref rx)]) hE.x hE.b dX6_readsClause_43 rfl hl (by decide) rfl (fun ls hl => ?_)
        refine lv_aload_n hE.x hE.b dX6_readsClause_44 rfl (lv_at hl 2 rfl) ?_
        refine lv_iconst (v := nI 0) hE.x hE.b dX6_readsClause_45 rfl ?_
        refine lv_bipush (v := (nI 60)) hE.x hE.b dX6_readsClause_46 rfl ?_
        refine z_qi hB (z_cV hE hB (c_X6_takes l g rx tx tg ln (nx bb ln (nx bb ln q)) e9_10 (nI (vl bb ln (nx bb ln (nx bb ln q)))) x9 d rr im lx ab be bd no fl tb ib bb (nI 0) (nI 60) (0 : Int) (60 : Int) (lW g tg ta (nI T) (nI C) (nI U) (nI V) rd ro lw pl pc gv aw nt ++ (Y ++ X)) (by omega) hby htb (nx_in (b := bb) (nx_in (b := bb) hql)) hf_12 (by omega) rfl rfl) q2_174 kX6_takes ⟨rfl, rfl⟩ ⟨Nat.le_of_ble_eq_true rfl, Nat.le_of_ble_eq_true rfl⟩ 0 rfl rfl rfl hl.1 rfl (Nat.le_of_ble_eq_true rfl) dX6_readsClause_48 ⟨Nat.le_of_ble_eq_true rfl, Nat.le_of_ble_eq_true rfl⟩) (fun r_14 w_15 H locs hw hB => ?_)
        obtain ⟨e9_16, u9_17, hr9, hw9, hf_18⟩ := hw
        have hr9 := hr9.symm
        subst hr9
        have hw9 := hw9.symm
        subst hw9
        refine z_bt (b := (tkB bb ln (nx bb ln (nx bb ln (nx bb ln q))) (0 : Int) (60 : Int))) (tgt := 56) hE dX6_readsClause_51 (by decide) (fun c_19 => ?_) (fun c_19 => ?_)
        · have htr3 := tkB_r c_19
          have hvl3 := vl_99 (b := bb) (ln := ln) (q := (nx bb ln (nx bb ln (nx bb ln q))))
          have hu9 := hf_18.2 htr3.1
          subst hu9
          refine lv_aload_n hE.x hE.b dX6_readsClause_56 rfl (lv_at hl 2 rfl) ?_
          refine z_get (v := .int (nI (vl bb ln (nx bb ln (nx bb ln (nx bb ln q)))))) hE hB inX6 0 rfl rfl 6 (by decide) q2_78 (fun _ h9 => h9) rfl dX6_readsClause_57 ?_
          refine lv_istore_n (lv' := [(3, .int (nI (vl bb ln (nx bb ln (nx bb ln (nx bb ln q)))))), (2, .int (nI (vl bb ln (nx bb ln (nx bb ln q))))), (1, .int (nI (vl bb ln (nx bb ln q)))), (0, .ref rx)]) hE.x hE.b dX6_readsClause_60 rfl hl (by decide) rfl (fun ls hl => ?_)
          refine lv_aload_n hE.x hE.b dX6_readsClause_61 rfl (lv_at hl 3 rfl) ?_
          refine lv_iload_n hE.x hE.b dX6_readsClause_62 rfl (lv_at hl 0 rfl) ?_
          refine lv_bipush (v := (nI 60)) hE.x hE.b dX6_readsClause_63 rfl ?_
          refine z_qi hB (z_cV hE hB (c_X6_takes l g rx tx tg ln (nx bb ln (nx bb ln (nx bb ln q))) e9_16 (nI (vl bb ln (nx bb ln (nx bb ln (nx bb ln q))))) x9 d rr im lx ab be bd no fl tb ib bb (nI (vl bb ln (nx bb ln (nx bb ln (nx bb ln q))))) (nI 60) (((vl bb ln (nx bb ln (nx bb ln (nx bb ln q)))) : Nat) : Int) (60 : Int) (lW g tg ta (nI T) (nI C) (nI U) (nI V) rd ro lw pl pc gv aw nt ++ (Y ++ X)) (by omega) hby htb (nx_in (b := bb) (nx_in (b := bb) (nx_in (b := bb) hql))) hf_18 (by omega) (nI_toInt (n := (vl bb ln (nx bb ln (nx bb ln (nx bb ln q))))) (by omega)) rfl) q2_174 kX6_takes ⟨rfl, rfl⟩ ⟨Nat.le_of_ble_eq_true rfl, Nat.le_of_ble_eq_true rfl⟩ 0 rfl rfl rfl hl.1 rfl (Nat.le_of_ble_eq_true rfl) dX6_readsClause_65 ⟨Nat.le_of_ble_eq_true rfl, Nat.le_of_ble_eq_true rfl⟩) (fun r_20 w_21 H locs hw hB => ?_)
          obtain ⟨e9_22, u9_23, hr9, hw9, hf_24⟩ := hw
          have hr9 := hr9.symm
          subst hr9
          have hw9 := hw9.symm
          subst hw9
          refine z_bt (b := (tkB bb ln (nx bb ln (nx bb ln (nx bb ln (nx bb ln q)))) (((vl bb ln (nx bb ln (nx bb ln (nx bb ln q)))) : Nat) : Int) (60 : Int))) (tgt := 73) hE dX6_readsClause_68 (by decide) (fun c_25 => ?_) (fun c_25 => ?_)
          · have htr4 := tkB_r c_25
            have hvl4 := vl_99 (b := bb) (ln := ln) (q := (nx bb ln (nx bb ln (nx bb ln (nx bb ln q)))))
            have hu9 := hf_24.2 htr4.1
            subst hu9
            refine lv_aload_n hE.x hE.b dX6_readsClause_73 rfl (lv_at hl 3 rfl) ?_
            refine z_get (v := .int (nI (vl bb ln (nx bb ln (nx bb ln (nx bb ln (nx bb ln q))))))) hE hB inX6 0 rfl rfl 6 (by decide) q2_78 (fun _ h9 => h9) rfl dX6_readsClause_74 ?_
            refine lv_istore (lv' := [(4, .int (nI (vl bb ln (nx bb ln (nx bb ln (nx bb ln (nx bb ln q))))))), (3, .int (nI (vl bb ln (nx bb ln (nx bb ln (nx bb ln q)))))), (2, .int (nI (vl bb ln (nx bb ln (nx bb ln q))))), (1, .int (nI (vl bb ln (nx bb ln q)))), (0, .ref rx)]) hE.x hE.b dX6_readsClause_77 hl (by decide) rfl (fun ls hl => ?_)
            refine lv_aload_n hE.x hE.b dX6_readsClause_79 rfl (lv_at hl 4 rfl) ?_
            refine lv_iconst (v := nI 0) hE.x hE.b dX6_readsClause_80 rfl ?_
            refine lv_iconst (v := nI 5) hE.x hE.b dX6_readsClause_81 rfl ?_
            refine z_qi hB (z_cV hE hB (c_X6_takes l g rx tx tg ln (nx bb ln (nx bb ln (nx bb ln (nx bb ln q)))) e9_22 (nI (vl bb ln (nx bb ln (nx bb ln (nx bb ln (nx bb ln q)))))) x9 d rr im lx ab be bd no fl tb ib bb (nI 0) (nI 5) (0 : Int) (5 : Int) (lW g tg ta (nI T) (nI C) (nI U) (nI V) rd ro lw pl pc gv aw nt ++ (Y ++ X)) (by omega) hby htb (nx_in (b := bb) (nx_in (b := bb) (nx_in (b := bb) (nx_in (b := bb) hql)))) hf_24 (by omega) rfl rfl) q2_174 kX6_takes ⟨rfl, rfl⟩ ⟨Nat.le_of_ble_eq_true rfl, Nat.le_of_ble_eq_true rfl⟩ 0 rfl rfl rfl hl.1 rfl (Nat.le_of_ble_eq_true rfl) dX6_readsClause_82 ⟨Nat.le_of_ble_eq_true rfl, Nat.le_of_ble_eq_true rfl⟩) (fun r_26 w_27 H locs hw hB => ?_)
            obtain ⟨e9_28, u9_29, hr9, hw9, hf_30⟩ := hw
            have hr9 := hr9.symm
            subst hr9
            have hw9 := hw9.symm
            subst hw9
            refine z_bt (b := (tkB bb ln (nx bb ln (nx bb ln (nx bb ln (nx bb ln (nx bb ln q))))) (0 : Int) (5 : Int))) (tgt := 90) hE dX6_readsClause_85 (by decide) (fun c_31 => ?_) (fun c_31 => ?_)
            · have htr5 := tkB_r c_31
              have hvl5 := vl_99 (b := bb) (ln := ln) (q := (nx bb ln (nx bb ln (nx bb ln (nx bb ln (nx bb ln q))))))
              have hu9 := hf_30.2 htr5.1
              subst hu9
              refine lv_aload_n hE.x hE.b dX6_readsClause_90 rfl (lv_at hl 4 rfl) ?_
              refine z_get (v := .int (nI (vl bb ln (nx bb ln (nx bb ln (nx bb ln (nx bb ln (nx bb ln q)))))))) hE hB inX6 0 rfl rfl 6 (by decide) q2_78 (fun _ h9 => h9) rfl dX6_readsClause_91 ?_
              refine lv_istore (lv' := [(5, .int (nI (vl bb ln (nx bb ln (nx bb ln (nx bb ln (nx bb ln (nx bb ln q)))))))), (4, .int (nI (vl bb ln (nx bb ln (nx bb ln (nx bb ln (nx bb ln q))))))), (3, .int (nI (vl bb ln (nx bb ln (nx bb ln (nx bb ln q)))))), (2, .int (nI (vl bb ln (nx bb ln (nx bb ln q))))), (1, .int (nI (vl bb ln (nx bb ln q)))), (0, .ref rx)]) hE.x hE.b dX6_readsClause_94 hl (by decide) rfl (fun ls hl => ?_)
              refine lv_aload_n hE.x hE.b dX6_readsClause_96 rfl (lv_at hl 5 rfl) ?_
              refine z_qi hB (z_cV hE hB (c_X6_closes l g rx tx tg ln (nx bb ln (nx bb ln (nx bb ln (nx bb ln (nx bb ln q))))) e9_28 (nI (vl bb ln (nx bb ln (nx bb ln (nx bb ln (nx bb ln (nx bb ln q))))))) x9 d rr im lx ab be bd no fl tb ib bb (lW g tg ta (nI T) (nI C) (nI U) (nI V) rd ro lw pl pc gv aw nt ++ (Y ++ X)) (by omega) hby htb (nx_in (b := bb) (nx_in (b := bb) (nx_in (b := bb) (nx_in (b := bb) (nx_in (b := bb) hql))))) hf_30 (by omega)) q2_161 kX6_closes ⟨rfl, rfl⟩ ⟨Nat.le_of_ble_eq_true rfl, Nat.le_of_ble_eq_true rfl⟩ 0 rfl rfl rfl hl.1 rfl (Nat.le_of_ble_eq_true rfl) dX6_readsClause_97 ⟨Nat.le_of_ble_eq_true rfl, Nat.le_of_ble_eq_true rfl⟩) (fun r_32 w_33 H locs hw hB => ?_)
              obtain ⟨q9_34, e9_35, u9_36, hr9, hw9, hf_37, hf_38⟩ := hw
              have hr9 := hr9.symm
              subst hr9
              have hw9 := hw9.symm
              subst hw9
              refine z_bt (b := (decide (kd bb ln (nx bb ln (nx bb ln (nx bb ln (nx bb ln (nx bb ln (nx bb ln q)))))) = 3))) (tgt := 105) hE dX6_readsClause_100 (by decide) (fun c_39 => ?_) (fun c_39 => ?_)
              · have hc3 := of_decide_eq_true c_39
                have hq9 := hf_38.trans (if_pos hc3)
                subst hq9
                refine lv_aload_n hE.x hE.b dX6_readsClause_105 rfl (lv_at hl 5 rfl) ?_
                refine z_get (v := .ref tg) hE hB inX6 0 rfl rfl 2 (by decide) q2_73 (fun _ h9 => h9) rfl dX6_readsClause_106 ?_
                refine lv_iload_n hE.x hE.b dX6_readsClause_109 rfl (lv_at hl 4 rfl) ?_
                refine lv_iload_n hE.x hE.b dX6_readsClause_110 rfl (lv_at hl 3 rfl) ?_
                refine lv_iload_n hE.x hE.b dX6_readsClause_111 rfl (lv_at hl 2 rfl) ?_
                refine lv_iload hE.x hE.b dX6_readsClause_112 (lv_at hl 1 rfl) ?_
                refine lv_iload hE.x hE.b dX6_readsClause_114 (lv_at hl 0 rfl) ?_
                refine z_qq hB (z_cSN hE hB (c_X8_told l g (vl bb ln (nx bb ln q)) (nI (vl bb ln (nx bb ln (nx bb ln q)))) (nI (vl bb ln (nx bb ln (nx bb ln (nx bb ln q))))) (nI (vl bb ln (nx bb ln (nx bb ln (nx bb ln (nx bb ln q)))))) (nI (vl bb ln (nx bb ln (nx bb ln (nx bb ln (nx bb ln (nx bb ln q))))))) (rW rx tx (nI ln) tg (nI (nx bb ln (nx bb ln (nx bb ln (nx bb ln (nx bb ln (nx bb ln (nx bb ln q)))))))) e9_35 (nI (ctk (kd bb ln (nx bb ln (nx bb ln (nx bb ln (nx bb ln (nx bb ln (nx bb ln (nx bb ln q)))))))))) u9_36 ++ (xW g x9 d rr im tx lx ab be bd no fl tb ib ++ (lW g tg ta (nI T) (nI C) (nI U) (nI V) rd ro lw pl pc gv aw nt ++ (Y ++ X)))) (by omega)) hE.2.1.2.1.2.2.1 kX8_told ⟨rfl, rfl⟩ ⟨Nat.le_of_ble_eq_true rfl, Nat.le_of_ble_eq_true rfl⟩ rfl hl.1 rfl (Nat.le_of_ble_eq_true rfl) dX6_readsClause_116 ⟨Nat.le_of_ble_eq_true rfl, Nat.le_of_ble_eq_true rfl⟩) (fun r_40 w_41 H locs hw hB => ?_)
                obtain ⟨q_42, hr9, hw9⟩ := hw
                have hr9 := hr9.symm
                subst hr9
                have hw9 := hw9.symm
                subst hw9
                have hB := zB_perm hB (List.Perm.append_left _ (List.Perm.append_left _ (List.perm_append_comm_assoc _ _ _)))
                have hB := zB_perm hB (List.Perm.append_left _ (List.perm_append_comm_assoc _ _ _))
                have hB := zB_perm hB (List.perm_append_comm_assoc _ _ _)
                refine z_qv hB (z_cV hE hB (c_X4_addClause l g tg ta T C U V rd ro lw pl pc gv aw nt q_42 ([(q_42, bE (vl bb ln (nx bb ln q)) (nI (vl bb ln (nx bb ln (nx bb ln q)))) (nI (vl bb ln (nx bb ln (nx bb ln (nx bb ln q))))) (nI (vl bb ln (nx bb ln (nx bb ln (nx bb ln (nx bb ln q)))))) (nI (vl bb ln (nx bb ln (nx bb ln (nx bb ln (nx bb ln (nx bb ln q))))))))] ++ (rW rx tx (nI ln) tg (nI (nx bb ln (nx bb ln (nx bb ln (nx bb ln (nx bb ln (nx bb ln (nx bb ln q)))))))) e9_35 (nI (ctk (kd bb ln (nx bb ln (nx bb ln (nx bb ln (nx bb ln (nx bb ln (nx bb ln (nx bb ln q)))))))))) u9_36 ++ (xW g x9 d rr im tx lx ab be bd no fl tb ib ++ (Y ++ X)))) (by omega) ⟨_, _, _, _, _, (by omega), List.mem_append_left _ (List.mem_singleton.mpr rfl)⟩) q2_192 kX4_addClause ⟨rfl, rfl⟩ ⟨Nat.le_of_ble_eq_true rfl, Nat.le_of_ble_eq_true rfl⟩ 0 rfl rfl rfl hl.1 rfl (Nat.le_of_ble_eq_true rfl) dX6_readsClause_119 ⟨Nat.le_of_ble_eq_true rfl, Nat.le_of_ble_eq_true rfl⟩) (fun w_44 H locs hw hB => ?_)
                have hw9 := hw
                have hw9 := hw9.symm
                subst hw9
                refine lv_iconst (v := nI 1) hE.x hE.b dX6_readsClause_122 rfl ?_
                have hB := zB_perm hB (List.Perm.append_left _ (List.perm_append_comm_assoc _ _ _))
                have hB := zB_perm hB (List.perm_append_comm_assoc _ _ _)
                have hB := zB_perm hB (List.Perm.append_left _ (List.Perm.append_left _ (List.perm_append_comm_assoc _ _ _)))
                have hB := zB_perm hB (List.Perm.append_left _ (List.perm_append_comm_assoc _ _ _))
                exact z_bret (b := true) (ws := rW rx tx (nI ln) tg (nI (nx bb ln (nx bb ln (nx bb ln (nx bb ln (nx bb ln (nx bb ln (nx bb ln q)))))))) e9_35 (nI (ctk (kd bb ln (nx bb ln (nx bb ln (nx bb ln (nx bb ln (nx bb ln (nx bb ln (nx bb ln q)))))))))) u9_36 ++ (xW g x9 d rr im tx lx ab be bd no fl tb ib ++ (lW g tg ta (nI T) (nI (C + 1)) (nI U) (nI V) rd ro (va_up lw C (some q_42)) pl pc gv aw nt ++ ([(q_42, bE (vl bb ln (nx bb ln q)) (nI (vl bb ln (nx bb ln (nx bb ln q)))) (nI (vl bb ln (nx bb ln (nx bb ln (nx bb ln q))))) (nI (vl bb ln (nx bb ln (nx bb ln (nx bb ln (nx bb ln q)))))) (nI (vl bb ln (nx bb ln (nx bb ln (nx bb ln (nx bb ln (nx bb ln q))))))))] ++ (Y ++ X))))) hE hB hr (⟨(nx bb ln (nx bb ln (nx bb ln (nx bb ln (nx bb ln (nx bb ln (nx bb ln q))))))), T, (C + 1), (nCl n C (nI (vl bb ln (nx bb ln q))) (nI (vl bb ln (nx bb ln (nx bb ln q)))) (nI (vl bb ln (nx bb ln (nx bb ln (nx bb ln q))))) (nI (vl bb ln (nx bb ln (nx bb ln (nx bb ln (nx bb ln q)))))) (nI (vl bb ln (nx bb ln (nx bb ln (nx bb ln (nx bb ln (nx bb ln q)))))))), rd, ro, (va_up lw C (some q_42)), ([(q_42, bE (vl bb ln (nx bb ln q)) (nI (vl bb ln (nx bb ln (nx bb ln q)))) (nI (vl bb ln (nx bb ln (nx bb ln (nx bb ln q))))) (nI (vl bb ln (nx bb ln (nx bb ln (nx bb ln (nx bb ln q)))))) (nI (vl bb ln (nx bb ln (nx bb ln (nx bb ln (nx bb ln (nx bb ln q))))))))] ++ Y), e9_35, u9_36, congrArg bI (ok_y (show (pCl bb ln n T C q) = .inr ((nx bb ln (nx bb ln (nx bb ln (nx bb ln (nx bb ln (nx bb ln q)))))), nCl n C (nI (vl bb ln (nx bb ln q))) (nI (vl bb ln (nx bb ln (nx bb ln q)))) (nI (vl bb ln (nx bb ln (nx bb ln (nx bb ln q))))) (nI (vl bb ln (nx bb ln (nx bb ln (nx bb ln (nx bb ln q)))))) (nI (vl bb ln (nx bb ln (nx bb ln (nx bb ln (nx bb ln (nx bb ln q))))))), T, C + 1) from by unfold pCl; simp only; rw [if_neg (by omega), if_pos c_7, if_pos c_13, if_pos c_19, if_pos c_25, if_pos c_31]) hc3), rfl, hf_37, (relL_clause (relL_in hrel (fun _ h => List.mem_append_right _ h)) (by omega) (by omega) (by omega) (List.mem_append_left _ (List.mem_singleton.mpr rfl))), (fun _ h => List.mem_append_right _ h), sR_y (show (pCl bb ln n T C q) = .inr ((nx bb ln (nx bb ln (nx bb ln (nx bb ln (nx bb ln (nx bb ln q)))))), nCl n C (nI (vl bb ln (nx bb ln q))) (nI (vl bb ln (nx bb ln (nx bb ln q)))) (nI (vl bb ln (nx bb ln (nx bb ln (nx bb ln q))))) (nI (vl bb ln (nx bb ln (nx bb ln (nx bb ln (nx bb ln q)))))) (nI (vl bb ln (nx bb ln (nx bb ln (nx bb ln (nx bb ln (nx bb ln q))))))), T, C + 1) from by unfold pCl; simp only; rw [if_neg (by omega), if_pos c_7, if_pos c_13, if_pos c_19, if_pos c_25, if_pos c_31]) hc3⟩) dX6_readsClause_123
              · have hc3 := of_decide_eq_false c_39
                have hq9 := hf_38.trans (if_neg hc3)
                subst hq9
                refine lv_iconst (v := nI 0) hE.x hE.b dX6_readsClause_103 rfl ?_
                refine W.widen (k := 1) (n := 5) (by omega) (by omega) ?_
                exact z_bret (b := false) (ws := rW rx tx (nI ln) tg (nI (nx bb ln (nx bb ln (nx bb ln (nx bb ln (nx bb ln (nx bb ln q))))))) e9_35 (nI (ctk (kd bb ln (nx bb ln (nx bb ln (nx bb ln (nx bb ln (nx bb ln (nx bb ln q))))))))) u9_36 ++ (xW g x9 d rr im tx lx ab be bd no fl tb ib ++ (lW g tg ta (nI T) (nI C) (nI U) (nI V) rd ro lw pl pc gv aw nt ++ (Y ++ X)))) hE hB hr (⟨(nx bb ln (nx bb ln (nx bb ln (nx bb ln (nx bb ln (nx bb ln q)))))), T, C, n, rd, ro, lw, Y, e9_35, u9_36, congrArg bI (ok_n (show (pCl bb ln n T C q) = .inr ((nx bb ln (nx bb ln (nx bb ln (nx bb ln (nx bb ln (nx bb ln q)))))), nCl n C (nI (vl bb ln (nx bb ln q))) (nI (vl bb ln (nx bb ln (nx bb ln q)))) (nI (vl bb ln (nx bb ln (nx bb ln (nx bb ln q))))) (nI (vl bb ln (nx bb ln (nx bb ln (nx bb ln (nx bb ln q)))))) (nI (vl bb ln (nx bb ln (nx bb ln (nx bb ln (nx bb ln (nx bb ln q))))))), T, C + 1) from by unfold pCl; simp only; rw [if_neg (by omega), if_pos c_7, if_pos c_13, if_pos c_19, if_pos c_25, if_pos c_31]) hc3), rfl, hf_37, hrel, (fun _ h => h), sR_n (show (pCl bb ln n T C q) = .inr ((nx bb ln (nx bb ln (nx bb ln (nx bb ln (nx bb ln (nx bb ln q)))))), nCl n C (nI (vl bb ln (nx bb ln q))) (nI (vl bb ln (nx bb ln (nx bb ln q)))) (nI (vl bb ln (nx bb ln (nx bb ln (nx bb ln q))))) (nI (vl bb ln (nx bb ln (nx bb ln (nx bb ln (nx bb ln q)))))) (nI (vl bb ln (nx bb ln (nx bb ln (nx bb ln (nx bb ln (nx bb ln q))))))), T, C + 1) from by unfold pCl; simp only; rw [if_neg (by omega), if_pos c_7, if_pos c_13, if_pos c_19, if_pos c_25, if_pos c_31]) hc3⟩) dX6_readsClause_104
            · refine lv_iconst (v := nI 0) hE.x hE.b dX6_readsClause_88 rfl ?_
              refine W.widen (k := 1) (n := 5) (by omega) (by omega) ?_
              exact z_bret (b := false) (ws := rW rx tx (nI ln) tg (nI (nx bb ln (nx bb ln (nx bb ln (nx bb ln (nx bb ln q)))))) e9_28 (nI (ctk (kd bb ln (nx bb ln (nx bb ln (nx bb ln (nx bb ln (nx bb ln q)))))))) u9_29 ++ (xW g x9 d rr im tx lx ab be bd no fl tb ib ++ (lW g tg ta (nI T) (nI C) (nI U) (nI V) rd ro lw pl pc gv aw nt ++ (Y ++ X)))) hE hB hr (⟨(nx bb ln (nx bb ln (nx bb ln (nx bb ln (nx bb ln q))))), T, C, n, rd, ro, lw, Y, e9_28, u9_29, congrArg bI (ok_l (show (pCl bb ln n T C q) = .inl (nx bb ln (nx bb ln (nx bb ln (nx bb ln (nx bb ln q))))) from by unfold pCl; simp only; rw [if_neg (by omega), if_pos c_7, if_pos c_13, if_pos c_19, if_pos c_25, if_neg (by rw [c_31]; decide)])), rfl, hf_30, hrel, (fun _ h => h), sR_l (show (pCl bb ln n T C q) = .inl (nx bb ln (nx bb ln (nx bb ln (nx bb ln (nx bb ln q))))) from by unfold pCl; simp only; rw [if_neg (by omega), if_pos c_7, if_pos c_13, if_pos c_19, if_pos c_25, if_neg (by rw [c_31]; decide)])⟩) dX6_readsClause_89
          · refine lv_iconst (v := nI 0) hE.x hE.b dX6_readsClause_71 rfl ?_
            refine W.widen (k := 1) (n := 5) (by omega) (by omega) ?_
            exact z_bret (b := false) (ws := rW rx tx (nI ln) tg (nI (nx bb ln (nx bb ln (nx bb ln (nx bb ln q))))) e9_22 (nI (ctk (kd bb ln (nx bb ln (nx bb ln (nx bb ln (nx bb ln q))))))) u9_23 ++ (xW g x9 d rr im tx lx ab be bd no fl tb ib ++ (lW g tg ta (nI T) (nI C) (nI U) (nI V) rd ro lw pl pc gv aw nt ++ (Y ++ X)))) hE hB hr (⟨(nx bb ln (nx bb ln (nx bb ln (nx bb ln q)))), T, C, n, rd, ro, lw, Y, e9_22, u9_23, congrArg bI (ok_l (show (pCl bb ln n T C q) = .inl (nx bb ln (nx bb ln (nx bb ln (nx bb ln q)))) from by unfold pCl; simp only; rw [if_neg (by omega), if_pos c_7, if_pos c_13, if_pos c_19, if_neg (by rw [c_25]; decide)])), rfl, hf_24, hrel, (fun _ h => h), sR_l (show (pCl bb ln n T C q) = .inl (nx bb ln (nx bb ln (nx bb ln (nx bb ln q)))) from by unfold pCl; simp only; rw [if_neg (by omega), if_pos c_7, if_pos c_13, if_pos c_19, if_neg (by rw [c_25]; decide)])⟩) dX6_readsClause_72
        · refine lv_iconst (v := nI 0) hE.x hE.b dX6_readsClause_54 rfl ?_
          refine W.widen (k := 1) (n := 5) (by omega) (by omega) ?_
          exact z_bret (b := false) (ws := rW rx tx (nI ln) tg (nI (nx bb ln (nx bb ln (nx bb ln q)))) e9_16 (nI (ctk (kd bb ln (nx bb ln (nx bb ln (nx bb ln q)))))) u9_17 ++ (xW g x9 d rr im tx lx ab be bd no fl tb ib ++ (lW g tg ta (nI T) (nI C) (nI U) (nI V) rd ro lw pl pc gv aw nt ++ (Y ++ X)))) hE hB hr (⟨(nx bb ln (nx bb ln (nx bb ln q))), T, C, n, rd, ro, lw, Y, e9_16, u9_17, congrArg bI (ok_l (show (pCl bb ln n T C q) = .inl (nx bb ln (nx bb ln (nx bb ln q))) from by unfold pCl; simp only; rw [if_neg (by omega), if_pos c_7, if_pos c_13, if_neg (by rw [c_19]; decide)])), rfl, hf_18, hrel, (fun _ h => h), sR_l (show (pCl bb ln n T C q) = .inl (nx bb ln (nx bb ln (nx bb ln q))) from by unfold pCl; simp only; rw [if_neg (by omega), if_pos c_7, if_pos c_13, if_neg (by rw [c_19]; decide)])⟩) dX6_readsClause_55
      · refine lv_iconst (v := nI 0) hE.x hE.b dX6_readsClause_37 rfl ?_
        refine W.widen (k := 1) (n := 5) (by omega) (by omega) ?_
        exact z_bret (b := false) (ws := rW rx tx (nI ln) tg (nI (nx bb ln (nx bb ln q))) e9_10 (nI (ctk (kd bb ln (nx bb ln (nx bb ln q))))) u9_11 ++ (xW g x9 d rr im tx lx ab be bd no fl tb ib ++ (lW g tg ta (nI T) (nI C) (nI U) (nI V) rd ro lw pl pc gv aw nt ++ (Y ++ X)))) hE hB hr (⟨(nx bb ln (nx bb ln q)), T, C, n, rd, ro, lw, Y, e9_10, u9_11, congrArg bI (ok_l (show (pCl bb ln n T C q) = .inl (nx bb ln (nx bb ln q)) from by unfold pCl; simp only; rw [if_neg (by omega), if_pos c_7, if_neg (by rw [c_13]; decide)])), rfl, hf_12, hrel, (fun _ h => h), sR_l (show (pCl bb ln n T C q) = .inl (nx bb ln (nx bb ln q)) from by unfold pCl; simp only; rw [if_neg (by omega), if_pos c_7, if_neg (by rw [c_13]; decide)])⟩) dX6_readsClause_38
    · refine lv_iconst (v := nI 0) hE.x hE.b dX6_readsClause_21 rfl ?_
      refine W.widen (k := 1) (n := 5) (by omega) (by omega) ?_
      exact z_bret (b := false) (ws := rW rx tx (nI ln) tg (nI (nx bb ln q)) e9_4 (nI (ctk (kd bb ln (nx bb ln q)))) u9_5 ++ (xW g x9 d rr im tx lx ab be bd no fl tb ib ++ (lW g tg ta (nI T) (nI C) (nI U) (nI V) rd ro lw pl pc gv aw nt ++ (Y ++ X)))) hE hB hr (⟨(nx bb ln q), T, C, n, rd, ro, lw, Y, e9_4, u9_5, congrArg bI (ok_l (show (pCl bb ln n T C q) = .inl (nx bb ln q) from by unfold pCl; simp only; rw [if_neg (by omega), if_neg (by rw [c_7]; decide)])), rfl, hf_6, hrel, (fun _ h => h), sR_l (show (pCl bb ln n T C q) = .inl (nx bb ln q) from by unfold pCl; simp only; rw [if_neg (by omega), if_neg (by rw [c_7]; decide)])⟩) dX6_readsClause_22

set_option maxHeartbeats 4000000 in
set_option maxRecDepth 100000 in
theorem c_X6_readsItem (l : Launch) (g : zG) (rx : Nat) (tx : Nat) (tg : Nat) (ln : Nat) (q : Nat) (en : Int32) (nu : Int32) (x9 : Nat) (d : Nat) (rr : Nat) (im : Nat) (lx : Int32) (ab : Int32) (be : Int32) (bd : Int32) (no : Int32) (fl : Int32) (tb : Nat → Int32) (ib : Nat → Option Nat) (bb : Nat → Int32) (ta : Nat → Nat) (T : Nat) (C : Nat) (U : Nat) (V : Nat) (rd : Nat → Int32) (ro : Nat → Int32) (lw : Nat → Option Nat) (pl : Nat → Option Nat) (pc : Nat → Int32) (gv : Nat → Int32) (aw : Nat → Int32) (nt : Nat → Int32) (n : Nat → Int32) (Y : va_W) (X : va_W) (hln : ln ≤ 150) (hby : byOK bb ln) (htb : ∀ i, i < ln → tb i = bb i) (hql : q ≤ ln) (hrd : rdK bb ln q en nu) (hpk : pK n T C) (hrel : relL n T C U V rd ro lw pl pc gv Y) : Met l yX6_readsItem (Cond.code yX6_readsItem cX6_readsItem 1 (some .boolean) :: TBL) { frames := 7, cells := 1, slots := 5, locals := 161 } (zPc [.ref rx] g (rW rx tx (nI ln) tg (nI q) en (nI (ctk (kd bb ln q))) nu ++ (xW g x9 d rr im tx lx ab be bd no fl tb ib ++ (lW g tg ta (nI T) (nI C) (nI U) (nI V) rd ro lw pl pc gv aw nt ++ (Y ++ X))))) (zQi g (fun r ws => ∃ (q9 : Nat) (T9 : Nat) (C9 : Nat) (n9 : Nat → Int32) (rd9 : Nat → Int32) (ro9 : Nat → Int32) (lw9 : Nat → Option Nat) (Y9 : va_W) (e9 : Int32) (u9 : Int32), r = bI (okI bb ln (pIt bb ln n T C q)) ∧ ws = rW rx tx (nI ln) tg (nI q9) e9 (nI (ctk (kd bb ln q9))) u9 ++ (xW g x9 d rr im tx lx ab be bd no fl tb ib ++ (lW g tg ta (nI T9) (nI C9) (nI U) (nI V) rd9 ro9 lw9 pl pc gv aw nt ++ (Y9 ++ X))) ∧ rdK bb ln q9 e9 u9 ∧ relL n9 T9 C9 U V rd9 ro9 lw9 pl pc gv Y9 ∧ (∀ x ∈ Y, x ∈ Y9) ∧ (q9, n9, T9, C9) = sR bb ln (pIt bb ln n T C q) n T C)) 1 5 (zA (gz g)) := by
  refine z_start (by decide +kernel) rfl (Nat.le_of_ble_eq_true rfl) ?_
  intro p e s m args below meth c ls hE hr hnm hB hl
  have hl : lv_has ls 1 [(0, .ref rx)] := hl
  revert hB
  generalize s.heap = H
  generalize ([] : List Loc) = locs
  intro hB
  have hT6 := hpk.2.1
  have hC8 := hpk.2.2.2
  refine lv_aload_n hE.x hE.b dX6_readsItem_0 rfl (lv_at hl 0 rfl) ?_
  refine va_ldcS hE.x hE.b hE.o hE.2.1.2.2.1.2.1.2.1 dX6_readsItem_1 ?_
  refine z_qi hB (z_cV hE hB (c_X6_isWord l g rx tx tg ln q en nu x9 d rr im lx ab be bd no fl tb ib bb 1 (lW g tg ta (nI T) (nI C) (nI U) (nI V) rd ro lw pl pc gv aw nt ++ (Y ++ X)) (by omega) hby htb hql hrd (by decide)) q2_109 kX6_isWord ⟨rfl, rfl⟩ ⟨Nat.le_of_ble_eq_true rfl, Nat.le_of_ble_eq_true rfl⟩ 0 rfl rfl rfl hl.1 rfl (Nat.le_of_ble_eq_true rfl) dX6_readsItem_3 ⟨Nat.le_of_ble_eq_true rfl, Nat.le_of_ble_eq_true rfl⟩) (fun r_1 w_2 H locs hw hB => ?_)
  obtain ⟨hr9, hw9⟩ := hw
  have hr9 := hr9.symm
  subst hr9
  have hw9 := hw9.symm
  subst hw9
  refine z_top (y := (bI (wdQ bb ln q 4 wTown))) rfl ?_
  refine z_bf (b := (wdQ bb ln q 4 wTown)) (tgt := 14) hE dX6_readsItem_6 (by decide) (fun c_3 => ?_) (fun c_3 => ?_)
  · refine lv_aload_n hE.x hE.b dX6_readsItem_14 rfl (lv_at hl 0 rfl) ?_
    refine va_ldcS hE.x hE.b hE.o hE.2.1.2.2.1.2.1.2.2.1 dX6_readsItem_15 ?_
    refine z_qi hB (z_cV hE hB (c_X6_isWord l g rx tx tg ln q en nu x9 d rr im lx ab be bd no fl tb ib bb 2 (lW g tg ta (nI T) (nI C) (nI U) (nI V) rd ro lw pl pc gv aw nt ++ (Y ++ X)) (by omega) hby htb hql hrd (by decide)) q2_109 kX6_isWord ⟨rfl, rfl⟩ ⟨Nat.le_of_ble_eq_true rfl, Nat.le_of_ble_eq_true rfl⟩ 0 rfl rfl rfl hl.1 rfl (Nat.le_of_ble_eq_true rfl) dX6_readsItem_17 ⟨Nat.le_of_ble_eq_true rfl, Nat.le_of_ble_eq_true rfl⟩) (fun r_4 w_5 H locs hw hB => ?_)
    obtain ⟨hr9, hw9⟩ := hw
    have hr9 := hr9.symm
    subst hr9
    have hw9 := hw9.symm
    subst hw9
    refine z_top (y := (bI (wdQ bb ln q 4 wRoad))) rfl ?_
    refine z_bf (b := (wdQ bb ln q 4 wRoad)) (tgt := 28) hE dX6_readsItem_20 (by decide) (fun c_6 => ?_) (fun c_6 => ?_)
    · refine lv_aload_n hE.x hE.b dX6_readsItem_28 rfl (lv_at hl 0 rfl) ?_
      refine va_ldcS hE.x hE.b hE.o hE.2.1.2.2.1.2.1.2.2.2 dX6_readsItem_29 ?_
      refine z_qi hB (z_cV hE hB (c_X6_isWord l g rx tx tg ln q en nu x9 d rr im lx ab be bd no fl tb ib bb 3 (lW g tg ta (nI T) (nI C) (nI U) (nI V) rd ro lw pl pc gv aw nt ++ (Y ++ X)) (by omega) hby htb hql hrd (by decide)) q2_109 kX6_isWord ⟨rfl, rfl⟩ ⟨Nat.le_of_ble_eq_true rfl, Nat.le_of_ble_eq_true rfl⟩ 0 rfl rfl rfl hl.1 rfl (Nat.le_of_ble_eq_true rfl) dX6_readsItem_31 ⟨Nat.le_of_ble_eq_true rfl, Nat.le_of_ble_eq_true rfl⟩) (fun r_7 w_8 H locs hw hB => ?_)
      obtain ⟨hr9, hw9⟩ := hw
      have hr9 := hr9.symm
      subst hr9
      have hw9 := hw9.symm
      subst hw9
      refine z_top (y := (bI (wdQ bb ln q 6 wClause))) rfl ?_
      refine z_bf (b := (wdQ bb ln q 6 wClause)) (tgt := 48) hE dX6_readsItem_34 (by decide) (fun c_9 => ?_) (fun c_9 => ?_)
      · refine lv_iconst (v := nI 0) hE.x hE.b dX6_readsItem_48 rfl ?_
        refine W.widen (k := 1) (n := 5) (by omega) (by omega) ?_
        exact z_bret (b := false) (ws := rW rx tx (nI ln) tg (nI q) en (nI (ctk (kd bb ln q))) nu ++ (xW g x9 d rr im tx lx ab be bd no fl tb ib ++ (lW g tg ta (nI T) (nI C) (nI U) (nI V) rd ro lw pl pc gv aw nt ++ (Y ++ X)))) hE hB hr (⟨q, T, C, n, rd, ro, lw, Y, en, nu, congrArg bI (ok_l (pIt_n c_3 c_6 c_9)), rfl, hrd, hrel, (fun _ h => h), sR_l (pIt_n c_3 c_6 c_9)⟩) dX6_readsItem_49
      · refine lv_aload_n hE.x hE.b dX6_readsItem_37 rfl (lv_at hl 0 rfl) ?_
        refine z_qi hB (z_cV hE hB (c_X6_readsClause l g rx tx tg ln q en nu x9 d rr im lx ab be bd no fl tb ib bb ta T C U V rd ro lw pl pc gv aw nt n Y X (by omega) hby htb hql hrd hpk hrel (wdQ_1 c_9)) q2_187 kX6_readsClause ⟨rfl, rfl⟩ ⟨Nat.le_of_ble_eq_true rfl, Nat.le_of_ble_eq_true rfl⟩ 0 rfl rfl rfl hl.1 rfl (Nat.le_of_ble_eq_true rfl) dX6_readsItem_38 ⟨Nat.le_of_ble_eq_true rfl, Nat.le_of_ble_eq_true rfl⟩) (fun r_10 w_11 H locs hw hB => ?_)
        obtain ⟨q9_12, T9_13, C9_14, n9_15, rd9_16, ro9_17, lw9_18, Y9_19, e9_20, u9_21, hr9, hw9, hf_22, hf_23, hf_24, hf_25⟩ := hw
        have hr9 := hr9.symm
        subst hr9
        have hw9 := hw9.symm
        subst hw9
        refine z_bf (b := (okI bb ln (pCl bb ln n T C q))) (tgt := 48) hE dX6_readsItem_41 (by decide) (fun c_26 => ?_) (fun c_26 => ?_)
        · refine lv_iconst (v := nI 0) hE.x hE.b dX6_readsItem_48 rfl ?_
          exact z_bret (b := false) (ws := rW rx tx (nI ln) tg (nI q9_12) e9_20 (nI (ctk (kd bb ln q9_12))) u9_21 ++ (xW g x9 d rr im tx lx ab be bd no fl tb ib ++ (lW g tg ta (nI T9_13) (nI C9_14) (nI U) (nI V) rd9_16 ro9_17 lw9_18 pl pc gv aw nt ++ (Y9_19 ++ X)))) hE hB hr (⟨q9_12, T9_13, C9_14, n9_15, rd9_16, ro9_17, lw9_18, Y9_19, e9_20, u9_21, by rw [(pIt_c c_3 c_6 c_9)]; rw [c_26], rfl, hf_22, hf_23, hf_24, by rw [(pIt_c c_3 c_6 c_9)]; exact hf_25⟩) dX6_readsItem_49
        · refine lv_iconst (v := nI 1) hE.x hE.b dX6_readsItem_44 rfl ?_
          refine lv_goto (tgt := 49) hE.x hE.b dX6_readsItem_45 (by decide) ?_
          exact z_bret (b := true) (ws := rW rx tx (nI ln) tg (nI q9_12) e9_20 (nI (ctk (kd bb ln q9_12))) u9_21 ++ (xW g x9 d rr im tx lx ab be bd no fl tb ib ++ (lW g tg ta (nI T9_13) (nI C9_14) (nI U) (nI V) rd9_16 ro9_17 lw9_18 pl pc gv aw nt ++ (Y9_19 ++ X)))) hE hB hr (⟨q9_12, T9_13, C9_14, n9_15, rd9_16, ro9_17, lw9_18, Y9_19, e9_20, u9_21, by rw [(pIt_c c_3 c_6 c_9)]; rw [c_26], rfl, hf_22, hf_23, hf_24, by rw [(pIt_c c_3 c_6 c_9)]; exact hf_25⟩) dX6_readsItem_49
    · refine lv_aload_n hE.x hE.b dX6_readsItem_23 rfl (lv_at hl 0 rfl) ?_
      refine z_qi hB (z_cV hE hB (c_X6_readsRoad l g rx tx tg ln q en nu x9 d rr im lx ab be bd no fl tb ib bb ta T C U V rd ro lw pl pc gv aw nt n Y X (by omega) hby htb hql hrd hpk hrel (wdQ_1 c_6)) q2_181 kX6_readsRoad ⟨rfl, rfl⟩ ⟨Nat.le_of_ble_eq_true rfl, Nat.le_of_ble_eq_true rfl⟩ 0 rfl rfl rfl hl.1 rfl (Nat.le_of_ble_eq_true rfl) dX6_readsItem_24 ⟨Nat.le_of_ble_eq_true rfl, Nat.le_of_ble_eq_true rfl⟩) (fun r_27 w_28 H locs hw hB => ?_)
      obtain ⟨q9_29, T9_30, C9_31, n9_32, rd9_33, ro9_34, lw9_35, Y9_36, e9_37, u9_38, hr9, hw9, hf_39, hf_40, hf_41, hf_42⟩ := hw
      have hr9 := hr9.symm
      subst hr9
      have hw9 := hw9.symm
      subst hw9
      refine W.widen (k := 1) (n := 5) (by omega) (by omega) ?_
      exact z_bret (b := (okI bb ln (pRd bb ln n T C q))) (ws := rW rx tx (nI ln) tg (nI q9_29) e9_37 (nI (ctk (kd bb ln q9_29))) u9_38 ++ (xW g x9 d rr im tx lx ab be bd no fl tb ib ++ (lW g tg ta (nI T9_30) (nI C9_31) (nI U) (nI V) rd9_33 ro9_34 lw9_35 pl pc gv aw nt ++ (Y9_36 ++ X)))) hE hB hr (⟨q9_29, T9_30, C9_31, n9_32, rd9_33, ro9_34, lw9_35, Y9_36, e9_37, u9_38, by rw [(pIt_r c_3 c_6)], rfl, hf_39, hf_40, hf_41, by rw [(pIt_r c_3 c_6)]; exact hf_42⟩) dX6_readsItem_27
  · refine lv_aload_n hE.x hE.b dX6_readsItem_9 rfl (lv_at hl 0 rfl) ?_
    refine z_qi hB (z_cV hE hB (c_X6_readsTown l g rx tx tg ln q en nu x9 d rr im lx ab be bd no fl tb ib bb ta T C U V rd ro lw pl pc gv aw nt n Y X (by omega) hby htb hql hrd hpk hrel (wdQ_1 c_3)) q2_170 kX6_readsTown ⟨rfl, rfl⟩ ⟨Nat.le_of_ble_eq_true rfl, Nat.le_of_ble_eq_true rfl⟩ 0 rfl rfl rfl hl.1 rfl (Nat.le_of_ble_eq_true rfl) dX6_readsItem_10 ⟨Nat.le_of_ble_eq_true rfl, Nat.le_of_ble_eq_true rfl⟩) (fun r_43 w_44 H locs hw hB => ?_)
    obtain ⟨q9_45, T9_46, C9_47, n9_48, rd9_49, ro9_50, lw9_51, Y9_52, e9_53, u9_54, hr9, hw9, hf_55, hf_56, hf_57, hf_58⟩ := hw
    have hr9 := hr9.symm
    subst hr9
    have hw9 := hw9.symm
    subst hw9
    refine W.widen (k := 1) (n := 5) (by omega) (by omega) ?_
    exact z_bret (b := (okI bb ln (pTw bb ln n T C q))) (ws := rW rx tx (nI ln) tg (nI q9_45) e9_53 (nI (ctk (kd bb ln q9_45))) u9_54 ++ (xW g x9 d rr im tx lx ab be bd no fl tb ib ++ (lW g tg ta (nI T9_46) (nI C9_47) (nI U) (nI V) rd9_49 ro9_50 lw9_51 pl pc gv aw nt ++ (Y9_52 ++ X)))) hE hB hr (⟨q9_45, T9_46, C9_47, n9_48, rd9_49, ro9_50, lw9_51, Y9_52, e9_53, u9_54, by rw [(pIt_t c_3)], rfl, hf_55, hf_56, hf_57, by rw [(pIt_t c_3)]; exact hf_58⟩) dX6_readsItem_13

set_option maxHeartbeats 4000000 in
set_option maxRecDepth 100000 in
theorem c_X6_items (l : Launch) (g : zG) (rx : Nat) (tx : Nat) (tg : Nat) (ln : Nat) (st : Int32) (tk : Int32) (nu : Int32) (x9 : Nat) (d : Nat) (rr : Nat) (im : Nat) (lx : Int32) (ab : Int32) (be : Int32) (bd : Int32) (no : Int32) (fl : Int32) (tb : Nat → Int32) (ib : Nat → Option Nat) (bb : Nat → Int32) (ta : Nat → Nat) (U : Nat) (V : Nat) (rd : Nat → Int32) (ro : Nat → Int32) (lw : Nat → Option Nat) (pl : Nat → Option Nat) (pc : Nat → Int32) (gv : Nat → Int32) (aw : Nat → Int32) (nt : Nat → Int32) (n : Nat → Int32) (Y : va_W) (X : va_W) (hln : ln ≤ 150) (hby : byOK bb ln) (htb : ∀ i, i < ln → tb i = bb i) (hpk : pK n 0 0) (hrel : relL n 0 0 U V rd ro lw pl pc gv Y) : Met l yX6_items (Cond.code yX6_items cX6_items 2 (some .int) :: TBL) { frames := 8, cells := 150, slots := 750, locals := 181 } (zPc [.ref rx] g (rW rx tx (nI ln) tg st (nI 0) tk nu ++ (xW g x9 d rr im tx lx ab be bd no fl tb ib ++ (lW g tg ta (nI 0) (nI 0) (nI U) (nI V) rd ro lw pl pc gv aw nt ++ (Y ++ X))))) (zQi g (fun r ws => ∃ (q9 : Nat) (T9 : Nat) (C9 : Nat) (n9 : Nat → Int32) (rd9 : Nat → Int32) (ro9 : Nat → Int32) (lw9 : Nat → Option Nat) (Y9 : va_W) (e9 : Int32) (t9 : Int32) (u9 : Int32), r = (xJ (pRead bb ln n)) ∧ ws = rW rx tx (nI ln) tg (nI q9) e9 t9 u9 ++ (xW g x9 d rr im tx lx ab be bd no fl tb ib ++ (lW g tg ta (nI T9) (nI C9) (nI U) (nI V) rd9 ro9 lw9 pl pc gv aw nt ++ (Y9 ++ X))) ∧ relL n9 T9 C9 U V rd9 ro9 lw9 pl pc gv Y9 ∧ (∀ x ∈ Y, x ∈ Y9) ∧ rdP (pRead bb ln n) q9 n9 T9 C9 ∧ pK n9 T9 C9)) 150 750 (zA (gz g)) := by
  refine z_start (by decide +kernel) rfl (Nat.le_of_ble_eq_true rfl) ?_
  intro p e s m args below meth c ls hE hr hnm hB hl
  have hl : lv_has ls 2 [(0, .ref rx)] := hl
  revert hB
  generalize s.heap = H
  generalize ([] : List Loc) = locs
  intro hB
  refine lv_aload_n hE.x hE.b dX6_items_0 rfl (lv_at hl 0 rfl) ?_
  refine z_qv hB (z_cV hE hB (c_X6_advance l g rx tx tg ln 0 st tk nu x9 d rr im lx ab be bd no fl tb ib bb (lW g tg ta (nI 0) (nI 0) (nI U) (nI V) rd ro lw pl pc gv aw nt ++ (Y ++ X)) (by omega) hby htb (by omega)) q2_98 kX6_advance ⟨rfl, rfl⟩ ⟨Nat.le_of_ble_eq_true rfl, Nat.le_of_ble_eq_true rfl⟩ 0 rfl rfl rfl hl.1 rfl (Nat.le_of_ble_eq_true rfl) dX6_items_1 ⟨Nat.le_of_ble_eq_true rfl, Nat.le_of_ble_eq_true rfl⟩) (fun w_2 H locs hw hB => ?_)
  obtain ⟨e9_3, u9_4, hw9, hf_5⟩ := hw
  have hw9 := hw9.symm
  subst hw9
  refine lv_aload_n hE.x hE.b dX6_items_4 rfl (lv_at hl 0 rfl) ?_
  refine va_ldcS hE.x hE.b hE.o hE.2.1.2.2.1.2.1.1 dX6_items_5 ?_
  refine z_qi hB (z_cV hE hB (c_X6_isWord l g rx tx tg ln (sk bb ln 0) e9_3 u9_4 x9 d rr im lx ab be bd no fl tb ib bb 0 (lW g tg ta (nI 0) (nI 0) (nI U) (nI V) rd ro lw pl pc gv aw nt ++ (Y ++ X)) (by omega) hby htb (sk_in (Nat.zero_le ln)) hf_5 (by decide)) q2_109 kX6_isWord ⟨rfl, rfl⟩ ⟨Nat.le_of_ble_eq_true rfl, Nat.le_of_ble_eq_true rfl⟩ 0 rfl rfl rfl hl.1 rfl (Nat.le_of_ble_eq_true rfl) dX6_items_7 ⟨Nat.le_of_ble_eq_true rfl, Nat.le_of_ble_eq_true rfl⟩) (fun r_6 w_7 H locs hw hB => ?_)
  obtain ⟨hr9, hw9⟩ := hw
  have hr9 := hr9.symm
  subst hr9
  have hw9 := hw9.symm
  subst hw9
  refine z_top (y := (bI (wdQ bb ln (sk bb ln 0) 4 wLand))) rfl ?_
  refine z_bf (b := (wdQ bb ln (sk bb ln 0) 4 wLand)) (tgt := 20) hE dX6_items_10 (by decide) (fun c_8 => ?_) (fun c_8 => ?_)
  · refine lv_iconst (v := (-1)) hE.x hE.b dX6_items_20 rfl ?_
    refine W.widen (k := 150) (n := 750) (by omega) (by omega) ?_
    exact z_iret (v := (-1)) (ws := rW rx tx (nI ln) tg (nI (sk bb ln 0)) e9_3 (nI (ctk (kd bb ln (sk bb ln 0)))) u9_4 ++ (xW g x9 d rr im tx lx ab be bd no fl tb ib ++ (lW g tg ta (nI 0) (nI 0) (nI U) (nI V) rd ro lw pl pc gv aw nt ++ (Y ++ X)))) hE hB hr (⟨(sk bb ln 0), 0, 0, n, rd, ro, lw, Y, e9_3, (nI (ctk (kd bb ln (sk bb ln 0)))), u9_4, (rdP_l (N := n) (T := 0) (C := 0) (rd_no c_8)).1, rfl, hrel, (fun _ h => h), (rdP_l (rd_no c_8)).2, hpk⟩) dX6_items_21
  · refine lv_aload_n hE.x hE.b dX6_items_13 rfl (lv_at hl 0 rfl) ?_
    refine z_qi hB (z_cV hE hB (c_X6_closes l g rx tx tg ln (sk bb ln 0) e9_3 u9_4 x9 d rr im lx ab be bd no fl tb ib bb (lW g tg ta (nI 0) (nI 0) (nI U) (nI V) rd ro lw pl pc gv aw nt ++ (Y ++ X)) (by omega) hby htb (sk_in (Nat.zero_le ln)) hf_5 (by rw [wdQ_1 c_8]; decide)) q2_161 kX6_closes ⟨rfl, rfl⟩ ⟨Nat.le_of_ble_eq_true rfl, Nat.le_of_ble_eq_true rfl⟩ 0 rfl rfl rfl hl.1 rfl (Nat.le_of_ble_eq_true rfl) dX6_items_14 ⟨Nat.le_of_ble_eq_true rfl, Nat.le_of_ble_eq_true rfl⟩) (fun r_9 w_10 H locs hw hB => ?_)
    obtain ⟨q9_11, e9_12, u9_13, hr9, hw9, hf_14, hf_15⟩ := hw
    have hr9 := hr9.symm
    subst hr9
    have hw9 := hw9.symm
    subst hw9
    refine z_bt (b := (decide (kd bb ln (nx bb ln (sk bb ln 0)) = 3))) (tgt := 22) hE dX6_items_17 (by decide) (fun c_16 => ?_) (fun c_16 => ?_)
    · have hc3 := of_decide_eq_true c_16
      have hq9 := hf_15.trans (if_pos hc3)
      subst hq9
      have hz0 := kd_0 (b := bb) (ln := ln) (q := sk bb ln 0)
      have hz1 := wdQ_1 c_8
      have hz2 := nx_gt (b := bb) (ln := ln) (q := sk bb ln 0) (by omega)
      have hz3 := nx_gt (b := bb) (ln := ln) (q := nx bb ln (sk bb ln 0)) (by have h9 := kd_0 (b := bb) (ln := ln) (q := nx bb ln (sk bb ln 0)); omega)
      refine lv_iconst (v := nI 1) hE.x hE.b dX6_items_22 rfl ?_
      refine lv_istore_n (lv' := [(1, .int (nI 1)), (0, .ref rx)]) hE.x hE.b dX6_items_23 rfl hl (by decide) rfl (fun ls hl => ?_)
      have k24 : ∀ (fu : Nat) (it : Nat) (q : Nat) (fz : Nat) (T : Nat) (C : Nat) (mm : Nat → Int32) (rd9 : Nat → Int32) (ro9 : Nat → Int32) (lw9 : Nat → Option Nat) (Y9 : va_W) (en : Int32) (nu9 : Int32) (H : Heap) (locs : List Loc) (ls : Array Slot), fz < fu → (q ≤ ln) → (it + 1 ≤ q) → (ln - q < fz) → (rdK bb ln q en nu9) → (pK mm T C) → (relL mm T C U V rd9 ro9 lw9 pl pc gv Y9) → (∀ x ∈ Y, x ∈ Y9) → ((pRead bb ln n) = pLp bb ln fz mm T C q (it + 1)) → zB g s (rW rx tx (nI ln) tg (nI q) en (nI (ctk (kd bb ln q))) nu9 ++ (xW g x9 d rr im tx lx ab be bd no fl tb ib ++ (lW g tg ta (nI T) (nI C) (nI U) (nI V) rd9 ro9 lw9 pl pc gv aw nt ++ (Y9 ++ X)))) H locs → lv_has ls 2 [(1, .int (nI (it + 1))), (0, .ref rx)] → W p l e { frames := 8, cells := 150, slots := 750, locals := 181 } s m args below meth c H locs it (5 * it) (MQ below (zQi g (fun r ws => ∃ (q9 : Nat) (T9 : Nat) (C9 : Nat) (n9 : Nat → Int32) (rd9 : Nat → Int32) (ro9 : Nat → Int32) (lw9 : Nat → Option Nat) (Y9 : va_W) (e9 : Int32) (t9 : Int32) (u9 : Int32), r = (xJ (pRead bb ln n)) ∧ ws = rW rx tx (nI ln) tg (nI q9) e9 t9 u9 ++ (xW g x9 d rr im tx lx ab be bd no fl tb ib ++ (lW g tg ta (nI T9) (nI C9) (nI U) (nI V) rd9 ro9 lw9 pl pc gv aw nt ++ (Y9 ++ X))) ∧ relL n9 T9 C9 U V rd9 ro9 lw9 pl pc gv Y9 ∧ (∀ x ∈ Y, x ∈ Y9) ∧ rdP (pRead bb ln n) q9 n9 T9 C9 ∧ pK n9 T9 C9)) args s 150 750 (zA (gz g))) (F0 m 24 ls []) := by
        intro fu
        induction fu with
        | zero => intro it q fz T C mm rd9 ro9 lw9 Y9 en nu9 H locs ls hfu hql9 hit hfz hkd hpk9 hrel9 hYY hrd9 hB hl; exact absurd hfu (Nat.not_lt_zero _)
        | succ fu ih24 =>
          intro it q fz T C mm rd9 ro9 lw9 Y9 en nu9 H locs ls hfu hql9 hit hfz hkd hpk9 hrel9 hYY hrd9 hB hl
          refine lv_iload_n hE.x hE.b dX6_items_24 rfl (lv_at hl 0 rfl) ?_
          refine lv_sipush (v := (nI 150)) hE.x hE.b dX6_items_25 rfl ?_
          refine z_gt (tgt := 56) (X := (((it + 1) : Nat) : Int)) (Y := (150 : Int)) hE dX6_items_28 (by decide) (nI_toInt (n := (it + 1)) (by omega)) rfl (fun c_17 => ?_) (fun c_17 => ?_)
          · · exact absurd c_17 (by omega)
          · have hk4 := ctk_4 (b := bb) (ln := ln) (q := q)
            have hk1 := ctk_1 (b := bb) (ln := ln) (q := q)
            refine lv_aload_n hE.x hE.b dX6_items_31 rfl (lv_at hl 1 rfl) ?_
            refine z_get (v := .int (nI (ctk (kd bb ln q)))) hE hB inX6 0 rfl rfl 5 (by decide) q2_77 (fun _ h9 => h9) rfl dX6_items_32 ?_
            refine lv_iconst (v := nI 1) hE.x hE.b dX6_items_35 rfl ?_
            refine z_ne (tgt := 41) (X := (((ctk (kd bb ln q)) : Nat) : Int)) (Y := (1 : Int)) hE dX6_items_36 (by decide) (nI_toInt (n := (ctk (kd bb ln q))) (by omega)) rfl (fun c_18 => ?_) (fun c_18 => ?_)
            · have hkz := kd_0 (b := bb) (ln := ln) (q := q)
              refine lv_aload_n hE.x hE.b dX6_items_41 rfl (lv_at hl 1 rfl) ?_
              refine z_qi hB (z_cV hE hB (c_X6_readsItem l g rx tx tg ln q en nu9 x9 d rr im lx ab be bd no fl tb ib bb ta T C U V rd9 ro9 lw9 pl pc gv aw nt mm Y9 X (by omega) hby htb hql9 hkd hpk9 hrel9) q2_165 kX6_readsItem ⟨rfl, rfl⟩ ⟨Nat.le_of_ble_eq_true rfl, Nat.le_of_ble_eq_true rfl⟩ 0 rfl rfl rfl hl.1 rfl (Nat.le_of_ble_eq_true rfl) dX6_items_42 ⟨by show it + 1 ≤ 150; omega, by show 5 * it + 5 ≤ 750; omega⟩) (fun r_19 w_20 H locs hw hB => ?_)
              obtain ⟨q9_21, T9_22, C9_23, n9_24, rd9_25, ro9_26, lw9_27, Y9_28, e9_29, u9_30, hr9, hw9, hf_31, hf_32, hf_33, hf_34⟩ := hw
              have hr9 := hr9.symm
              subst hr9
              have hw9 := hw9.symm
              subst hw9
              refine z_bt (b := (okI bb ln (pIt bb ln mm T C q))) (tgt := 50) hE dX6_items_45 (by decide) (fun c_35 => ?_) (fun c_35 => ?_)
              · have hgo := it_go hf_34 c_35 (by omega) (by omega) hrd9 hpk9 hql9
                refine lv_iinc (v := (nI ((it + 1) + 1))) (lv' := [(1, .int (nI ((it + 1) + 1))), (0, .ref rx)]) hE.x hE.b dX6_items_50 hl (k := 0) rfl (nI_add _ _) (by decide) rfl (fun ls hl => ?_)
                refine lv_goto (tgt := 24) hE.x hE.b dX6_items_53 (by decide) ?_
                exact ih24 (it + 1) q9_21 (fz - 1) T9_22 C9_23 n9_24 rd9_25 ro9_26 lw9_27 Y9_28 e9_29 u9_30 _ _ _ (by omega) hgo.2.2.1 (by omega) (by omega) hf_31 hgo.2.2.2 hf_32 (fun x h => hf_33 x (hYY x h)) hgo.1 hB hl
              · have hno := it_no hf_34 c_35 (by omega) (by omega) hrd9 hpk9
                refine lv_iconst (v := (-1)) hE.x hE.b dX6_items_48 rfl ?_
                refine W.widen (k := 150) (n := 750) (by omega) (by omega) ?_
                exact z_iret (v := (-1)) (ws := rW rx tx (nI ln) tg (nI q9_21) e9_29 (nI (ctk (kd bb ln q9_21))) u9_30 ++ (xW g x9 d rr im tx lx ab be bd no fl tb ib ++ (lW g tg ta (nI T9_22) (nI C9_23) (nI U) (nI V) rd9_25 ro9_26 lw9_27 pl pc gv aw nt ++ (Y9_28 ++ X)))) hE hB hr (⟨q9_21, T9_22, C9_23, n9_24, rd9_25, ro9_26, lw9_27, Y9_28, e9_29, _, u9_30, (rdP_l (N := n9_24) (T := T9_22) (C := C9_23) hno.1).1, rfl, hf_32, (fun x h => hf_33 x (hYY x h)), (rdP_l hno.1).2, hno.2⟩) dX6_items_49
            · refine lv_iload_n hE.x hE.b dX6_items_39 rfl (lv_at hl 0 rfl) ?_
              refine W.widen (k := 150) (n := 750) (by omega) (by omega) ?_
              exact z_iret (v := (nI (it + 1))) (ws := rW rx tx (nI ln) tg (nI q) en (nI (ctk (kd bb ln q))) nu9 ++ (xW g x9 d rr im tx lx ab be bd no fl tb ib ++ (lW g tg ta (nI T) (nI C) (nI U) (nI V) rd9 ro9 lw9 pl pc gv aw nt ++ (Y9 ++ X)))) hE hB hr (⟨q, T, C, mm, rd9, ro9, lw9, Y9, en, (nI (ctk (kd bb ln q))), nu9, (rdP_r (q := q) (hrd9.trans (pLp_0 (by omega) (by omega)))).1, rfl, hrel9, hYY, (rdP_r (hrd9.trans (pLp_0 (by omega) (by omega)))).2, hpk9⟩) dX6_items_40
      exact k24 (151 + 1) 0 (nx bb ln (nx bb ln (sk bb ln 0))) 151 0 0 n rd ro lw Y e9_12 u9_13 _ _ _ (Nat.lt_succ_self _) (nx_in (nx_in (sk_in (Nat.zero_le ln)))) (by omega) (by omega) hf_14 hpk hrel (fun _ h => h) (rd_go c_8 hc3) hB hl
    · have hc3 := of_decide_eq_false c_16
      have hq9 := hf_15.trans (if_neg hc3)
      subst hq9
      refine lv_iconst (v := (-1)) hE.x hE.b dX6_items_20 rfl ?_
      refine W.widen (k := 150) (n := 750) (by omega) (by omega) ?_
      exact z_iret (v := (-1)) (ws := rW rx tx (nI ln) tg (nI (nx bb ln (sk bb ln 0))) e9_12 (nI (ctk (kd bb ln (nx bb ln (sk bb ln 0))))) u9_13 ++ (xW g x9 d rr im tx lx ab be bd no fl tb ib ++ (lW g tg ta (nI 0) (nI 0) (nI U) (nI V) rd ro lw pl pc gv aw nt ++ (Y ++ X)))) hE hB hr (⟨(nx bb ln (sk bb ln 0)), 0, 0, n, rd, ro, lw, Y, e9_12, (nI (ctk (kd bb ln (nx bb ln (sk bb ln 0))))), u9_13, (rdP_l (N := n) (T := 0) (C := 0) (rd_n2 c_8 hc3)).1, rfl, hrel, (fun _ h => h), (rdP_l (rd_n2 c_8 hc3)).2, hpk⟩) dX6_items_21

set_option maxHeartbeats 4000000 in
set_option maxRecDepth 100000 in
theorem c_X6_init (l : Launch) (g : zG) (rx : Nat) (tx : Nat) (tg : Nat) (ln : Nat) (x9 : Nat) (d : Nat) (rr : Nat) (im : Nat) (lx : Int32) (ab : Int32) (be : Int32) (bd : Int32) (no : Int32) (fl : Int32) (tb : Nat → Int32) (ib : Nat → Option Nat) (X : va_W) (hln : ln ≤ 150) : Met l yX6_init (Cond.code yX6_init cX6_init 4 none :: TBL) { frames := 1, cells := 0, slots := 0, locals := 12 } (zPc [.ref rx, .ref tx, .int (nI ln), .ref tg] g ([(rx, .inr (6, [.null, .int 0, .null, .int 0, .int 0, .int 0, .int 0]))] ++ (xW g x9 d rr im tx lx ab be bd no fl tb ib ++ X))) (zQv g (fun ws => ws = rW rx tx (nI ln) tg (nI 0) (nI 0) (nI 0) (nI 0) ++ (xW g x9 d rr im tx lx ab be bd no fl tb ib ++ X))) 0 0 (zA (gz g)) := by
  refine z_start (by decide +kernel) rfl (Nat.le_of_ble_eq_true rfl) ?_
  intro p e s m args below meth c ls hE hr hnm hB hl
  have hl : lv_has ls 4 [(0, .ref rx), (1, .ref tx), (2, .int (nI ln)), (3, .ref tg)] := hl
  revert hB
  generalize s.heap = H
  generalize ([] : List Loc) = locs
  intro hB
  refine lv_aload_n hE.x hE.b dX6_init_0 rfl (lv_at hl 0 rfl) ?_
  refine W.objInit hE.x hE.b hE.o (hE.t _ q2_70) (hE.t _ q1_23) (hE.t _ q1_24) rfl (by rw [hE.ml]; exact hl.1) rfl dX6_init_1 (Nat.le_of_ble_eq_true rfl) (Nat.le_of_ble_eq_true rfl) ?_
  refine W.eq (g2 := F0 m 4 ls []) rfl ?_
  refine lv_aload_n hE.x hE.b dX6_init_4 rfl (lv_at hl 0 rfl) ?_
  refine lv_aload_n hE.x hE.b dX6_init_5 rfl (lv_at hl 1 rfl) ?_
  refine z_putF (v := .ref tx) (ty := (.array .byte)) (ws' := [(rx, .inr (6, [.ref tx, .int 0, .null, .int 0, .int 0, .int 0, .int 0]))] ++ (xW g x9 d rr im tx lx ab be bd no fl tb ib ++ X)) hE hB inX6 tyX6 tyX6_ok nmX6 0 rfl rfl 0 (by decide) q2_71 (fun _ h9 => h9) rfl hnm rfl (by decide +kernel) rfl rfl (Nat.le_of_ble_eq_true rfl) rfl dX6_init_6 (fun H locs hB => ?_)
  refine lv_aload_n hE.x hE.b dX6_init_9 rfl (lv_at hl 0 rfl) ?_
  refine lv_iload_n hE.x hE.b dX6_init_10 rfl (lv_at hl 2 rfl) ?_
  refine lv_aload_n hE.x hE.b dX6_init_11 rfl (lv_at hl 1 rfl) ?_
  refine z_alen (n := 150) hE hB 2 0 rfl rfl rfl dX6_init_12 ?_
  refine z_ge (tgt := 20) (X := ((ln : Nat) : Int)) (Y := (150 : Int)) hE dX6_init_13 (by decide) (nI_toInt (n := ln) (by omega)) rfl (fun c_1 => ?_) (fun c_1 => ?_)
  · refine lv_aload_n hE.x hE.b dX6_init_20 rfl (lv_at hl 1 rfl) ?_
    refine z_alen (n := 150) hE hB 2 0 rfl rfl rfl dX6_init_21 ?_
    refine z_top (y := (nI ln)) (by rw [show ln = 150 by omega]) ?_
    refine z_putF (v := .int (nI ln)) (ty := .int) (ws' := [(rx, .inr (6, [.ref tx, .int (nI ln), .null, .int 0, .int 0, .int 0, .int 0]))] ++ (xW g x9 d rr im tx lx ab be bd no fl tb ib ++ X)) hE hB inX6 tyX6 tyX6_ok nmX6 0 rfl rfl 1 (by decide) q2_72 (fun _ h9 => h9) rfl hnm rfl (by decide +kernel) rfl rfl (Nat.le_of_ble_eq_true rfl) rfl dX6_init_22 (fun H locs hB => ?_)
    refine lv_aload_n hE.x hE.b dX6_init_25 rfl (lv_at hl 0 rfl) ?_
    refine lv_aload_n hE.x hE.b dX6_init_26 rfl (lv_at hl 3 rfl) ?_
    refine z_putF (v := .ref tg) (ty := (.object "BanLand$Land")) (ws' := [(rx, .inr (6, [.ref tx, .int (nI ln), .ref tg, .int 0, .int 0, .int 0, .int 0]))] ++ (xW g x9 d rr im tx lx ab be bd no fl tb ib ++ X)) hE hB inX6 tyX6 tyX6_ok nmX6 0 rfl rfl 2 (by decide) q2_73 (fun _ h9 => h9) rfl hnm rfl (by decide +kernel) rfl rfl (Nat.le_of_ble_eq_true rfl) rfl dX6_init_27 (fun H locs hB => ?_)
    refine lv_aload_n hE.x hE.b dX6_init_30 rfl (lv_at hl 0 rfl) ?_
    refine lv_iconst (v := nI 0) hE.x hE.b dX6_init_31 rfl ?_
    refine z_put (v := .int (nI 0)) (ty := .int) (ws' := [(rx, .inr (6, [.ref tx, .int (nI ln), .ref tg, .int (nI 0), .int 0, .int 0, .int 0]))] ++ (xW g x9 d rr im tx lx ab be bd no fl tb ib ++ X)) hE hB inX6 tyX6 tyX6_ok nmX6 0 rfl rfl 3 (by decide) q2_74 (fun _ h9 => h9) rfl (by decide +kernel) rfl rfl (Nat.le_of_ble_eq_true rfl) rfl dX6_init_32 (fun H locs hB => ?_)
    refine lv_aload_n hE.x hE.b dX6_init_35 rfl (lv_at hl 0 rfl) ?_
    refine lv_iconst (v := nI 0) hE.x hE.b dX6_init_36 rfl ?_
    refine z_put (v := .int (nI 0)) (ty := .int) (ws' := [(rx, .inr (6, [.ref tx, .int (nI ln), .ref tg, .int (nI 0), .int (nI 0), .int 0, .int 0]))] ++ (xW g x9 d rr im tx lx ab be bd no fl tb ib ++ X)) hE hB inX6 tyX6 tyX6_ok nmX6 0 rfl rfl 4 (by decide) q2_76 (fun _ h9 => h9) rfl (by decide +kernel) rfl rfl (Nat.le_of_ble_eq_true rfl) rfl dX6_init_37 (fun H locs hB => ?_)
    refine lv_aload_n hE.x hE.b dX6_init_40 rfl (lv_at hl 0 rfl) ?_
    refine lv_iconst (v := nI 0) hE.x hE.b dX6_init_41 rfl ?_
    refine z_put (v := .int (nI 0)) (ty := .int) (ws' := [(rx, .inr (6, [.ref tx, .int (nI ln), .ref tg, .int (nI 0), .int (nI 0), .int (nI 0), .int 0]))] ++ (xW g x9 d rr im tx lx ab be bd no fl tb ib ++ X)) hE hB inX6 tyX6 tyX6_ok nmX6 0 rfl rfl 5 (by decide) q2_77 (fun _ h9 => h9) rfl (by decide +kernel) rfl rfl (Nat.le_of_ble_eq_true rfl) rfl dX6_init_42 (fun H locs hB => ?_)
    refine lv_aload_n hE.x hE.b dX6_init_45 rfl (lv_at hl 0 rfl) ?_
    refine lv_iconst (v := nI 0) hE.x hE.b dX6_init_46 rfl ?_
    refine z_put (v := .int (nI 0)) (ty := .int) (ws' := [(rx, .inr (6, [.ref tx, .int (nI ln), .ref tg, .int (nI 0), .int (nI 0), .int (nI 0), .int (nI 0)]))] ++ (xW g x9 d rr im tx lx ab be bd no fl tb ib ++ X)) hE hB inX6 tyX6 tyX6_ok nmX6 0 rfl rfl 6 (by decide) q2_78 (fun _ h9 => h9) rfl (by decide +kernel) rfl rfl (Nat.le_of_ble_eq_true rfl) rfl dX6_init_47 (fun H locs hB => ?_)
    have hB : zB g s (rW rx tx (nI ln) tg (nI 0) (nI 0) (nI 0) (nI 0) ++ (xW g x9 d rr im tx lx ab be bd no fl tb ib ++ X)) H locs := hB
    exact z_vret (ws := rW rx tx (nI ln) tg (nI 0) (nI 0) (nI 0) (nI 0) ++ (xW g x9 d rr im tx lx ab be bd no fl tb ib ++ X)) hE hB hr (rfl) dX6_init_50
  · refine lv_iload_n hE.x hE.b dX6_init_16 rfl (lv_at hl 2 rfl) ?_
    refine lv_goto (tgt := 22) hE.x hE.b dX6_init_17 (by decide) ?_
    refine z_putF (v := .int (nI ln)) (ty := .int) (ws' := [(rx, .inr (6, [.ref tx, .int (nI ln), .null, .int 0, .int 0, .int 0, .int 0]))] ++ (xW g x9 d rr im tx lx ab be bd no fl tb ib ++ X)) hE hB inX6 tyX6 tyX6_ok nmX6 0 rfl rfl 1 (by decide) q2_72 (fun _ h9 => h9) rfl hnm rfl (by decide +kernel) rfl rfl (Nat.le_of_ble_eq_true rfl) rfl dX6_init_22 (fun H locs hB => ?_)
    refine lv_aload_n hE.x hE.b dX6_init_25 rfl (lv_at hl 0 rfl) ?_
    refine lv_aload_n hE.x hE.b dX6_init_26 rfl (lv_at hl 3 rfl) ?_
    refine z_putF (v := .ref tg) (ty := (.object "BanLand$Land")) (ws' := [(rx, .inr (6, [.ref tx, .int (nI ln), .ref tg, .int 0, .int 0, .int 0, .int 0]))] ++ (xW g x9 d rr im tx lx ab be bd no fl tb ib ++ X)) hE hB inX6 tyX6 tyX6_ok nmX6 0 rfl rfl 2 (by decide) q2_73 (fun _ h9 => h9) rfl hnm rfl (by decide +kernel) rfl rfl (Nat.le_of_ble_eq_true rfl) rfl dX6_init_27 (fun H locs hB => ?_)
    refine lv_aload_n hE.x hE.b dX6_init_30 rfl (lv_at hl 0 rfl) ?_
    refine lv_iconst (v := nI 0) hE.x hE.b dX6_init_31 rfl ?_
    refine z_put (v := .int (nI 0)) (ty := .int) (ws' := [(rx, .inr (6, [.ref tx, .int (nI ln), .ref tg, .int (nI 0), .int 0, .int 0, .int 0]))] ++ (xW g x9 d rr im tx lx ab be bd no fl tb ib ++ X)) hE hB inX6 tyX6 tyX6_ok nmX6 0 rfl rfl 3 (by decide) q2_74 (fun _ h9 => h9) rfl (by decide +kernel) rfl rfl (Nat.le_of_ble_eq_true rfl) rfl dX6_init_32 (fun H locs hB => ?_)
    refine lv_aload_n hE.x hE.b dX6_init_35 rfl (lv_at hl 0 rfl) ?_
    refine lv_iconst (v := nI 0) hE.x hE.b dX6_init_36 rfl ?_
    refine z_put (v := .int (nI 0)) (ty := .int) (ws' := [(rx, .inr (6, [.ref tx, .int (nI ln), .ref tg, .int (nI 0), .int (nI 0), .int 0, .int 0]))] ++ (xW g x9 d rr im tx lx ab be bd no fl tb ib ++ X)) hE hB inX6 tyX6 tyX6_ok nmX6 0 rfl rfl 4 (by decide) q2_76 (fun _ h9 => h9) rfl (by decide +kernel) rfl rfl (Nat.le_of_ble_eq_true rfl) rfl dX6_init_37 (fun H locs hB => ?_)
    refine lv_aload_n hE.x hE.b dX6_init_40 rfl (lv_at hl 0 rfl) ?_
    refine lv_iconst (v := nI 0) hE.x hE.b dX6_init_41 rfl ?_
    refine z_put (v := .int (nI 0)) (ty := .int) (ws' := [(rx, .inr (6, [.ref tx, .int (nI ln), .ref tg, .int (nI 0), .int (nI 0), .int (nI 0), .int 0]))] ++ (xW g x9 d rr im tx lx ab be bd no fl tb ib ++ X)) hE hB inX6 tyX6 tyX6_ok nmX6 0 rfl rfl 5 (by decide) q2_77 (fun _ h9 => h9) rfl (by decide +kernel) rfl rfl (Nat.le_of_ble_eq_true rfl) rfl dX6_init_42 (fun H locs hB => ?_)
    refine lv_aload_n hE.x hE.b dX6_init_45 rfl (lv_at hl 0 rfl) ?_
    refine lv_iconst (v := nI 0) hE.x hE.b dX6_init_46 rfl ?_
    refine z_put (v := .int (nI 0)) (ty := .int) (ws' := [(rx, .inr (6, [.ref tx, .int (nI ln), .ref tg, .int (nI 0), .int (nI 0), .int (nI 0), .int (nI 0)]))] ++ (xW g x9 d rr im tx lx ab be bd no fl tb ib ++ X)) hE hB inX6 tyX6 tyX6_ok nmX6 0 rfl rfl 6 (by decide) q2_78 (fun _ h9 => h9) rfl (by decide +kernel) rfl rfl (Nat.le_of_ble_eq_true rfl) rfl dX6_init_47 (fun H locs hB => ?_)
    have hB : zB g s (rW rx tx (nI ln) tg (nI 0) (nI 0) (nI 0) (nI 0) ++ (xW g x9 d rr im tx lx ab be bd no fl tb ib ++ X)) H locs := hB
    exact z_vret (ws := rW rx tx (nI ln) tg (nI 0) (nI 0) (nI 0) (nI 0) ++ (xW g x9 d rr im tx lx ab be bd no fl tb ib ++ X)) hE hB hr (rfl) dX6_init_50

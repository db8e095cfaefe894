theorem dX9_towns_0 : decode cX9_towns 0 = .ok (.aload_n 0, 1) := by decide +kernel
theorem dX9_towns_1 : decode cX9_towns 1 = .ok (.getfield 7, 3) := by decide +kernel
theorem dX9_towns_4 : decode cX9_towns 4 = .ok (.iconst 0, 1) := by decide +kernel
theorem dX9_towns_5 : decode cX9_towns 5 = .ok (.iaload, 1) := by decide +kernel
theorem dX9_towns_6 : decode cX9_towns 6 = .ok (.ireturn, 1) := by decide +kernel
theorem dX9_clauses_0 : decode cX9_clauses 0 = .ok (.aload_n 0, 1) := by decide +kernel
theorem dX9_clauses_1 : decode cX9_clauses 1 = .ok (.getfield 7, 3) := by decide +kernel
theorem dX9_clauses_4 : decode cX9_clauses 4 = .ok (.iconst 1, 1) := by decide +kernel
theorem dX9_clauses_5 : decode cX9_clauses 5 = .ok (.iaload, 1) := by decide +kernel
theorem dX9_clauses_6 : decode cX9_clauses 6 = .ok (.ireturn, 1) := by decide +kernel
theorem dX9_isTown_0 : decode cX9_isTown 0 = .ok (.iload_n 1, 1) := by decide +kernel
theorem dX9_isTown_1 : decode cX9_isTown 1 = .ok (.i2l, 1) := by decide +kernel
theorem dX9_isTown_2 : decode cX9_isTown 2 = .ok (.lconst 0, 1) := by decide +kernel
theorem dX9_isTown_3 : decode cX9_isTown 3 = .ok (.aload_n 0, 1) := by decide +kernel
theorem dX9_isTown_4 : decode cX9_isTown 4 = .ok (.invokevirtual 39, 3) := by decide +kernel
theorem dX9_isTown_7 : decode cX9_isTown 7 = .ok (.iconst 1, 1) := by decide +kernel
theorem dX9_isTown_8 : decode cX9_isTown 8 = .ok (.isub, 1) := by decide +kernel
theorem dX9_isTown_9 : decode cX9_isTown 9 = .ok (.i2l, 1) := by decide +kernel
theorem dX9_isTown_10 : decode cX9_isTown 10 = .ok (.invokestatic 43, 3) := by decide +kernel
theorem dX9_isTown_13 : decode cX9_isTown 13 = .ok (.ireturn, 1) := by decide +kernel
theorem dX9_isClause_0 : decode cX9_isClause 0 = .ok (.iload_n 1, 1) := by decide +kernel
theorem dX9_isClause_1 : decode cX9_isClause 1 = .ok (.i2l, 1) := by decide +kernel
theorem dX9_isClause_2 : decode cX9_isClause 2 = .ok (.lconst 0, 1) := by decide +kernel
theorem dX9_isClause_3 : decode cX9_isClause 3 = .ok (.aload_n 0, 1) := by decide +kernel
theorem dX9_isClause_4 : decode cX9_isClause 4 = .ok (.invokevirtual 47, 3) := by decide +kernel
theorem dX9_isClause_7 : decode cX9_isClause 7 = .ok (.iconst 1, 1) := by decide +kernel
theorem dX9_isClause_8 : decode cX9_isClause 8 = .ok (.isub, 1) := by decide +kernel
theorem dX9_isClause_9 : decode cX9_isClause 9 = .ok (.i2l, 1) := by decide +kernel
theorem dX9_isClause_10 : decode cX9_isClause 10 = .ok (.invokestatic 43, 3) := by decide +kernel
theorem dX9_isClause_13 : decode cX9_isClause 13 = .ok (.ireturn, 1) := by decide +kernel
theorem dX9_isAct_0 : decode cX9_isAct 0 = .ok (.iload_n 0, 1) := by decide +kernel
theorem dX9_isAct_1 : decode cX9_isAct 1 = .ok (.i2l, 1) := by decide +kernel
theorem dX9_isAct_2 : decode cX9_isAct 2 = .ok (.lconst 0, 1) := by decide +kernel
theorem dX9_isAct_3 : decode cX9_isAct 3 = .ok (.ldc2_w 50, 3) := by decide +kernel
theorem dX9_isAct_6 : decode cX9_isAct 6 = .ok (.invokestatic 43, 3) := by decide +kernel
theorem dX9_isAct_9 : decode cX9_isAct 9 = .ok (.ireturn, 1) := by decide +kernel
theorem dX9_isDay_0 : decode cX9_isDay 0 = .ok (.iload_n 0, 1) := by decide +kernel
theorem dX9_isDay_1 : decode cX9_isDay 1 = .ok (.i2l, 1) := by decide +kernel
theorem dX9_isDay_2 : decode cX9_isDay 2 = .ok (.lconst 0, 1) := by decide +kernel
theorem dX9_isDay_3 : decode cX9_isDay 3 = .ok (.ldc2_w 52, 3) := by decide +kernel
theorem dX9_isDay_6 : decode cX9_isDay 6 = .ok (.invokestatic 43, 3) := by decide +kernel
theorem dX9_isDay_9 : decode cX9_isDay 9 = .ok (.ireturn, 1) := by decide +kernel
theorem dX9_areActs_0 : decode cX9_areActs 0 = .ok (.iload_n 0, 1) := by decide +kernel
theorem dX9_areActs_1 : decode cX9_areActs 1 = .ok (.i2l, 1) := by decide +kernel
theorem dX9_areActs_2 : decode cX9_areActs 2 = .ok (.lconst 0, 1) := by decide +kernel
theorem dX9_areActs_3 : decode cX9_areActs 3 = .ok (.ldc2_w 54, 3) := by decide +kernel
theorem dX9_areActs_6 : decode cX9_areActs 6 = .ok (.invokestatic 43, 3) := by decide +kernel
theorem dX9_areActs_9 : decode cX9_areActs 9 = .ok (.ireturn, 1) := by decide +kernel
theorem dX9_isAsker_0 : decode cX9_isAsker 0 = .ok (.iload_n 0, 1) := by decide +kernel
theorem dX9_isAsker_1 : decode cX9_isAsker 1 = .ok (.i2l, 1) := by decide +kernel
theorem dX9_isAsker_2 : decode cX9_isAsker 2 = .ok (.lconst 0, 1) := by decide +kernel
theorem dX9_isAsker_3 : decode cX9_isAsker 3 = .ok (.lconst 1, 1) := by decide +kernel
theorem dX9_isAsker_4 : decode cX9_isAsker 4 = .ok (.invokestatic 43, 3) := by decide +kernel
theorem dX9_isAsker_7 : decode cX9_isAsker 7 = .ok (.ifCond .eq 17, 3) := by decide +kernel
theorem dX9_isAsker_10 : decode cX9_isAsker 10 = .ok (.iload_n 1, 1) := by decide +kernel
theorem dX9_isAsker_11 : decode cX9_isAsker 11 = .ok (.i2l, 1) := by decide +kernel
theorem dX9_isAsker_12 : decode cX9_isAsker 12 = .ok (.lconst 0, 1) := by decide +kernel
theorem dX9_isAsker_13 : decode cX9_isAsker 13 = .ok (.lconst 1, 1) := by decide +kernel
theorem dX9_isAsker_14 : decode cX9_isAsker 14 = .ok (.invokestatic 43, 3) := by decide +kernel
theorem dX9_isAsker_17 : decode cX9_isAsker 17 = .ok (.ifCond .eq 7, 3) := by decide +kernel
theorem dX9_isAsker_20 : decode cX9_isAsker 20 = .ok (.iconst 1, 1) := by decide +kernel
theorem dX9_isAsker_21 : decode cX9_isAsker 21 = .ok (.goto 4, 3) := by decide +kernel
theorem dX9_isAsker_24 : decode cX9_isAsker 24 = .ok (.iconst 0, 1) := by decide +kernel
theorem dX9_isAsker_25 : decode cX9_isAsker 25 = .ok (.ireturn, 1) := by decide +kernel
theorem dX9_has_0 : decode cX9_has 0 = .ok (.aload_n 0, 1) := by decide +kernel
theorem dX9_has_1 : decode cX9_has 1 = .ok (.getfield 7, 3) := by decide +kernel
theorem dX9_has_4 : decode cX9_has 4 = .ok (.bipush 46, 2) := by decide +kernel
theorem dX9_has_6 : decode cX9_has 6 = .ok (.iconst 5, 1) := by decide +kernel
theorem dX9_has_7 : decode cX9_has 7 = .ok (.iload_n 1, 1) := by decide +kernel
theorem dX9_has_8 : decode cX9_has 8 = .ok (.imul, 1) := by decide +kernel
theorem dX9_has_9 : decode cX9_has 9 = .ok (.iadd, 1) := by decide +kernel
theorem dX9_has_10 : decode cX9_has 10 = .ok (.iload_n 2, 1) := by decide +kernel
theorem dX9_has_11 : decode cX9_has 11 = .ok (.iadd, 1) := by decide +kernel
theorem dX9_has_12 : decode cX9_has 12 = .ok (.iaload, 1) := by decide +kernel
theorem dX9_has_13 : decode cX9_has 13 = .ok (.ireturn, 1) := by decide +kernel
theorem dX9_land_0 : decode cX9_land 0 = .ok (.aload_n 0, 1) := by decide +kernel
theorem dX9_land_1 : decode cX9_land 1 = .ok (.invokevirtual 39, 3) := by decide +kernel
theorem dX9_land_4 : decode cX9_land 4 = .ok (.istore_n 1, 1) := by decide +kernel
theorem dX9_land_5 : decode cX9_land 5 = .ok (.aload_n 0, 1) := by decide +kernel
theorem dX9_land_6 : decode cX9_land 6 = .ok (.getfield 7, 3) := by decide +kernel
theorem dX9_land_9 : decode cX9_land 9 = .ok (.invokestatic 56, 3) := by decide +kernel
theorem dX9_land_12 : decode cX9_land 12 = .ok (.iload_n 1, 1) := by decide +kernel
theorem dX9_land_13 : decode cX9_land 13 = .ok (.ireturn, 1) := by decide +kernel
theorem dX9_layTown_0 : decode cX9_layTown 0 = .ok (.aload_n 0, 1) := by decide +kernel
theorem dX9_layTown_1 : decode cX9_layTown 1 = .ok (.iconst 4, 1) := by decide +kernel
theorem dX9_layTown_2 : decode cX9_layTown 2 = .ok (.aload_n 0, 1) := by decide +kernel
theorem dX9_layTown_3 : decode cX9_layTown 3 = .ok (.iconst 0, 1) := by decide +kernel
theorem dX9_layTown_4 : decode cX9_layTown 4 = .ok (.iaload, 1) := by decide +kernel
theorem dX9_layTown_5 : decode cX9_layTown 5 = .ok (.iadd, 1) := by decide +kernel
theorem dX9_layTown_6 : decode cX9_layTown 6 = .ok (.iload_n 1, 1) := by decide +kernel
theorem dX9_layTown_7 : decode cX9_layTown 7 = .ok (.iastore, 1) := by decide +kernel
theorem dX9_layTown_8 : decode cX9_layTown 8 = .ok (.aload_n 0, 1) := by decide +kernel
theorem dX9_layTown_9 : decode cX9_layTown 9 = .ok (.iconst 0, 1) := by decide +kernel
theorem dX9_layTown_10 : decode cX9_layTown 10 = .ok (.dup2, 1) := by decide +kernel
theorem dX9_layTown_11 : decode cX9_layTown 11 = .ok (.iaload, 1) := by decide +kernel
theorem dX9_layTown_12 : decode cX9_layTown 12 = .ok (.iconst 1, 1) := by decide +kernel
theorem dX9_layTown_13 : decode cX9_layTown 13 = .ok (.iadd, 1) := by decide +kernel
theorem dX9_layTown_14 : decode cX9_layTown 14 = .ok (.iastore, 1) := by decide +kernel
theorem dX9_layTown_15 : decode cX9_layTown 15 = .ok (.return_, 1) := by decide +kernel
theorem dX9_town_0 : decode cX9_town 0 = .ok (.iload_n 1, 1) := by decide +kernel
theorem dX9_town_1 : decode cX9_town 1 = .ok (.i2l, 1) := by decide +kernel
theorem dX9_town_2 : decode cX9_town 2 = .ok (.lconst 0, 1) := by decide +kernel
theorem dX9_town_3 : decode cX9_town 3 = .ok (.ldc2_w 60, 3) := by decide +kernel
theorem dX9_town_6 : decode cX9_town 6 = .ok (.invokestatic 43, 3) := by decide +kernel
theorem dX9_town_9 : decode cX9_town 9 = .ok (.ifCond .ne 10, 3) := by decide +kernel
theorem dX9_town_12 : decode cX9_town 12 = .ok (.aload_n 0, 1) := by decide +kernel
theorem dX9_town_13 : decode cX9_town 13 = .ok (.bipush (-2), 2) := by decide +kernel
theorem dX9_town_15 : decode cX9_town 15 = .ok (.invokevirtual 62, 3) := by decide +kernel
theorem dX9_town_18 : decode cX9_town 18 = .ok (.ireturn, 1) := by decide +kernel
theorem dX9_town_19 : decode cX9_town 19 = .ok (.aload_n 0, 1) := by decide +kernel
theorem dX9_town_20 : decode cX9_town 20 = .ok (.invokevirtual 39, 3) := by decide +kernel
theorem dX9_town_23 : decode cX9_town 23 = .ok (.bipush 6, 2) := by decide +kernel
theorem dX9_town_25 : decode cX9_town 25 = .ok (.if_icmp .ne 8, 3) := by decide +kernel
theorem dX9_town_28 : decode cX9_town 28 = .ok (.aload_n 0, 1) := by decide +kernel
theorem dX9_town_29 : decode cX9_town 29 = .ok (.invokevirtual 66, 3) := by decide +kernel
theorem dX9_town_32 : decode cX9_town 32 = .ok (.ireturn, 1) := by decide +kernel
theorem dX9_town_33 : decode cX9_town 33 = .ok (.aload_n 0, 1) := by decide +kernel
theorem dX9_town_34 : decode cX9_town 34 = .ok (.getfield 7, 3) := by decide +kernel
theorem dX9_town_37 : decode cX9_town 37 = .ok (.iload_n 1, 1) := by decide +kernel
theorem dX9_town_38 : decode cX9_town 38 = .ok (.invokestatic 69, 3) := by decide +kernel
theorem dX9_town_41 : decode cX9_town 41 = .ok (.aload_n 0, 1) := by decide +kernel
theorem dX9_town_42 : decode cX9_town 42 = .ok (.invokevirtual 39, 3) := by decide +kernel
theorem dX9_town_45 : decode cX9_town 45 = .ok (.iconst 1, 1) := by decide +kernel
theorem dX9_town_46 : decode cX9_town 46 = .ok (.isub, 1) := by decide +kernel
theorem dX9_town_47 : decode cX9_town 47 = .ok (.ireturn, 1) := by decide +kernel
theorem dX9_layRoad_0 : decode cX9_layRoad 0 = .ok (.aload_n 0, 1) := by decide +kernel
theorem dX9_layRoad_1 : decode cX9_layRoad 1 = .ok (.bipush 10, 2) := by decide +kernel
theorem dX9_layRoad_3 : decode cX9_layRoad 3 = .ok (.bipush 6, 2) := by decide +kernel
theorem dX9_layRoad_5 : decode cX9_layRoad 5 = .ok (.iload_n 1, 1) := by decide +kernel
theorem dX9_layRoad_6 : decode cX9_layRoad 6 = .ok (.imul, 1) := by decide +kernel
theorem dX9_layRoad_7 : decode cX9_layRoad 7 = .ok (.iadd, 1) := by decide +kernel
theorem dX9_layRoad_8 : decode cX9_layRoad 8 = .ok (.iload_n 2, 1) := by decide +kernel
theorem dX9_layRoad_9 : decode cX9_layRoad 9 = .ok (.iadd, 1) := by decide +kernel
theorem dX9_layRoad_10 : decode cX9_layRoad 10 = .ok (.iload_n 3, 1) := by decide +kernel
theorem dX9_layRoad_11 : decode cX9_layRoad 11 = .ok (.iastore, 1) := by decide +kernel
theorem dX9_layRoad_12 : decode cX9_layRoad 12 = .ok (.aload_n 0, 1) := by decide +kernel
theorem dX9_layRoad_13 : decode cX9_layRoad 13 = .ok (.bipush 10, 2) := by decide +kernel
theorem dX9_layRoad_15 : decode cX9_layRoad 15 = .ok (.bipush 6, 2) := by decide +kernel
theorem dX9_layRoad_17 : decode cX9_layRoad 17 = .ok (.iload_n 2, 1) := by decide +kernel
theorem dX9_layRoad_18 : decode cX9_layRoad 18 = .ok (.imul, 1) := by decide +kernel
theorem dX9_layRoad_19 : decode cX9_layRoad 19 = .ok (.iadd, 1) := by decide +kernel
theorem dX9_layRoad_20 : decode cX9_layRoad 20 = .ok (.iload_n 1, 1) := by decide +kernel
theorem dX9_layRoad_21 : decode cX9_layRoad 21 = .ok (.iadd, 1) := by decide +kernel
theorem dX9_layRoad_22 : decode cX9_layRoad 22 = .ok (.iload_n 3, 1) := by decide +kernel
theorem dX9_layRoad_23 : decode cX9_layRoad 23 = .ok (.iastore, 1) := by decide +kernel
theorem dX9_layRoad_24 : decode cX9_layRoad 24 = .ok (.return_, 1) := by decide +kernel
theorem dX9_road_0 : decode cX9_road 0 = .ok (.aload_n 0, 1) := by decide +kernel
theorem dX9_road_1 : decode cX9_road 1 = .ok (.iload_n 1, 1) := by decide +kernel
theorem dX9_road_2 : decode cX9_road 2 = .ok (.invokevirtual 73, 3) := by decide +kernel
theorem dX9_road_5 : decode cX9_road 5 = .ok (.ifCond .eq 28, 3) := by decide +kernel
theorem dX9_road_8 : decode cX9_road 8 = .ok (.aload_n 0, 1) := by decide +kernel
theorem dX9_road_9 : decode cX9_road 9 = .ok (.iload_n 2, 1) := by decide +kernel
theorem dX9_road_10 : decode cX9_road 10 = .ok (.invokevirtual 73, 3) := by decide +kernel
theorem dX9_road_13 : decode cX9_road 13 = .ok (.ifCond .eq 20, 3) := by decide +kernel
theorem dX9_road_16 : decode cX9_road 16 = .ok (.iload_n 1, 1) := by decide +kernel
theorem dX9_road_17 : decode cX9_road 17 = .ok (.iload_n 2, 1) := by decide +kernel
theorem dX9_road_18 : decode cX9_road 18 = .ok (.if_icmp .eq 15, 3) := by decide +kernel
theorem dX9_road_21 : decode cX9_road 21 = .ok (.iload_n 3, 1) := by decide +kernel
theorem dX9_road_22 : decode cX9_road 22 = .ok (.i2l, 1) := by decide +kernel
theorem dX9_road_23 : decode cX9_road 23 = .ok (.lconst 1, 1) := by decide +kernel
theorem dX9_road_24 : decode cX9_road 24 = .ok (.ldc2_w 77, 3) := by decide +kernel
theorem dX9_road_27 : decode cX9_road 27 = .ok (.invokestatic 43, 3) := by decide +kernel
theorem dX9_road_30 : decode cX9_road 30 = .ok (.ifCond .ne 10, 3) := by decide +kernel
theorem dX9_road_33 : decode cX9_road 33 = .ok (.aload_n 0, 1) := by decide +kernel
theorem dX9_road_34 : decode cX9_road 34 = .ok (.bipush (-2), 2) := by decide +kernel
theorem dX9_road_36 : decode cX9_road 36 = .ok (.invokevirtual 62, 3) := by decide +kernel
theorem dX9_road_39 : decode cX9_road 39 = .ok (.ireturn, 1) := by decide +kernel
theorem dX9_road_40 : decode cX9_road 40 = .ok (.aload_n 0, 1) := by decide +kernel
theorem dX9_road_41 : decode cX9_road 41 = .ok (.getfield 7, 3) := by decide +kernel
theorem dX9_road_44 : decode cX9_road 44 = .ok (.bipush 10, 2) := by decide +kernel
theorem dX9_road_46 : decode cX9_road 46 = .ok (.bipush 6, 2) := by decide +kernel
theorem dX9_road_48 : decode cX9_road 48 = .ok (.iload_n 1, 1) := by decide +kernel
theorem dX9_road_49 : decode cX9_road 49 = .ok (.imul, 1) := by decide +kernel
theorem dX9_road_50 : decode cX9_road 50 = .ok (.iadd, 1) := by decide +kernel
theorem dX9_road_51 : decode cX9_road 51 = .ok (.iload_n 2, 1) := by decide +kernel
theorem dX9_road_52 : decode cX9_road 52 = .ok (.iadd, 1) := by decide +kernel
theorem dX9_road_53 : decode cX9_road 53 = .ok (.iaload, 1) := by decide +kernel
theorem dX9_road_54 : decode cX9_road 54 = .ok (.istore 4, 2) := by decide +kernel
theorem dX9_road_56 : decode cX9_road 56 = .ok (.aload_n 0, 1) := by decide +kernel
theorem dX9_road_57 : decode cX9_road 57 = .ok (.getfield 7, 3) := by decide +kernel
theorem dX9_road_60 : decode cX9_road 60 = .ok (.iload_n 1, 1) := by decide +kernel
theorem dX9_road_61 : decode cX9_road 61 = .ok (.iload_n 2, 1) := by decide +kernel
theorem dX9_road_62 : decode cX9_road 62 = .ok (.iload_n 3, 1) := by decide +kernel
theorem dX9_road_63 : decode cX9_road 63 = .ok (.invokestatic 79, 3) := by decide +kernel
theorem dX9_road_66 : decode cX9_road 66 = .ok (.iload 4, 2) := by decide +kernel
theorem dX9_road_68 : decode cX9_road 68 = .ok (.ireturn, 1) := by decide +kernel
theorem dX9_layClause_0 : decode cX9_layClause 0 = .ok (.bipush 46, 2) := by decide +kernel
theorem dX9_layClause_2 : decode cX9_layClause 2 = .ok (.iconst 5, 1) := by decide +kernel
theorem dX9_layClause_3 : decode cX9_layClause 3 = .ok (.aload_n 0, 1) := by decide +kernel
theorem dX9_layClause_4 : decode cX9_layClause 4 = .ok (.iconst 1, 1) := by decide +kernel
theorem dX9_layClause_5 : decode cX9_layClause 5 = .ok (.iaload, 1) := by decide +kernel
theorem dX9_layClause_6 : decode cX9_layClause 6 = .ok (.imul, 1) := by decide +kernel
theorem dX9_layClause_7 : decode cX9_layClause 7 = .ok (.iadd, 1) := by decide +kernel
theorem dX9_layClause_8 : decode cX9_layClause 8 = .ok (.istore 6, 2) := by decide +kernel
theorem dX9_layClause_10 : decode cX9_layClause 10 = .ok (.aload_n 0, 1) := by decide +kernel
theorem dX9_layClause_11 : decode cX9_layClause 11 = .ok (.iload 6, 2) := by decide +kernel
theorem dX9_layClause_13 : decode cX9_layClause 13 = .ok (.iconst 0, 1) := by decide +kernel
theorem dX9_layClause_14 : decode cX9_layClause 14 = .ok (.iadd, 1) := by decide +kernel
theorem dX9_layClause_15 : decode cX9_layClause 15 = .ok (.iload_n 1, 1) := by decide +kernel
theorem dX9_layClause_16 : decode cX9_layClause 16 = .ok (.iastore, 1) := by decide +kernel
theorem dX9_layClause_17 : decode cX9_layClause 17 = .ok (.aload_n 0, 1) := by decide +kernel
theorem dX9_layClause_18 : decode cX9_layClause 18 = .ok (.iload 6, 2) := by decide +kernel
theorem dX9_layClause_20 : decode cX9_layClause 20 = .ok (.iconst 1, 1) := by decide +kernel
theorem dX9_layClause_21 : decode cX9_layClause 21 = .ok (.iadd, 1) := by decide +kernel
theorem dX9_layClause_22 : decode cX9_layClause 22 = .ok (.iload_n 2, 1) := by decide +kernel
theorem dX9_layClause_23 : decode cX9_layClause 23 = .ok (.iastore, 1) := by decide +kernel
theorem dX9_layClause_24 : decode cX9_layClause 24 = .ok (.aload_n 0, 1) := by decide +kernel
theorem dX9_layClause_25 : decode cX9_layClause 25 = .ok (.iload 6, 2) := by decide +kernel
theorem dX9_layClause_27 : decode cX9_layClause 27 = .ok (.iconst 2, 1) := by decide +kernel
theorem dX9_layClause_28 : decode cX9_layClause 28 = .ok (.iadd, 1) := by decide +kernel
theorem dX9_layClause_29 : decode cX9_layClause 29 = .ok (.iload_n 3, 1) := by decide +kernel
theorem dX9_layClause_30 : decode cX9_layClause 30 = .ok (.iastore, 1) := by decide +kernel
theorem dX9_layClause_31 : decode cX9_layClause 31 = .ok (.aload_n 0, 1) := by decide +kernel
theorem dX9_layClause_32 : decode cX9_layClause 32 = .ok (.iload 6, 2) := by decide +kernel
theorem dX9_layClause_34 : decode cX9_layClause 34 = .ok (.iconst 3, 1) := by decide +kernel
theorem dX9_layClause_35 : decode cX9_layClause 35 = .ok (.iadd, 1) := by decide +kernel
theorem dX9_layClause_36 : decode cX9_layClause 36 = .ok (.iload 4, 2) := by decide +kernel
theorem dX9_layClause_38 : decode cX9_layClause 38 = .ok (.iastore, 1) := by decide +kernel
theorem dX9_layClause_39 : decode cX9_layClause 39 = .ok (.aload_n 0, 1) := by decide +kernel
theorem dX9_layClause_40 : decode cX9_layClause 40 = .ok (.iload 6, 2) := by decide +kernel
theorem dX9_layClause_42 : decode cX9_layClause 42 = .ok (.iconst 4, 1) := by decide +kernel
theorem dX9_layClause_43 : decode cX9_layClause 43 = .ok (.iadd, 1) := by decide +kernel
theorem dX9_layClause_44 : decode cX9_layClause 44 = .ok (.iload 5, 2) := by decide +kernel
theorem dX9_layClause_46 : decode cX9_layClause 46 = .ok (.iastore, 1) := by decide +kernel
theorem dX9_layClause_47 : decode cX9_layClause 47 = .ok (.aload_n 0, 1) := by decide +kernel
theorem dX9_layClause_48 : decode cX9_layClause 48 = .ok (.iconst 1, 1) := by decide +kernel
theorem dX9_layClause_49 : decode cX9_layClause 49 = .ok (.dup2, 1) := by decide +kernel
theorem dX9_layClause_50 : decode cX9_layClause 50 = .ok (.iaload, 1) := by decide +kernel
theorem dX9_layClause_51 : decode cX9_layClause 51 = .ok (.iconst 1, 1) := by decide +kernel
theorem dX9_layClause_52 : decode cX9_layClause 52 = .ok (.iadd, 1) := by decide +kernel
theorem dX9_layClause_53 : decode cX9_layClause 53 = .ok (.iastore, 1) := by decide +kernel
theorem dX9_layClause_54 : decode cX9_layClause 54 = .ok (.return_, 1) := by decide +kernel
theorem dX9_keep_0 : decode cX9_keep 0 = .ok (.aload_n 0, 1) := by decide +kernel
theorem dX9_keep_1 : decode cX9_keep 1 = .ok (.getfield 7, 3) := by decide +kernel
theorem dX9_keep_4 : decode cX9_keep 4 = .ok (.iconst 3, 1) := by decide +kernel
theorem dX9_keep_5 : decode cX9_keep 5 = .ok (.iaload, 1) := by decide +kernel
theorem dX9_keep_6 : decode cX9_keep 6 = .ok (.bipush 8, 2) := by decide +kernel
theorem dX9_keep_8 : decode cX9_keep 8 = .ok (.if_icmp .ne 45, 3) := by decide +kernel
theorem dX9_keep_11 : decode cX9_keep 11 = .ok (.iconst 0, 1) := by decide +kernel
theorem dX9_keep_12 : decode cX9_keep 12 = .ok (.istore_n 1, 1) := by decide +kernel
theorem dX9_keep_13 : decode cX9_keep 13 = .ok (.iload_n 1, 1) := by decide +kernel
theorem dX9_keep_14 : decode cX9_keep 14 = .ok (.sipush 287, 3) := by decide +kernel
theorem dX9_keep_17 : decode cX9_keep 17 = .ok (.if_icmp .ge 28, 3) := by decide +kernel
theorem dX9_keep_20 : decode cX9_keep 20 = .ok (.aload_n 0, 1) := by decide +kernel
theorem dX9_keep_21 : decode cX9_keep 21 = .ok (.getfield 7, 3) := by decide +kernel
theorem dX9_keep_24 : decode cX9_keep 24 = .ok (.bipush 126, 2) := by decide +kernel
theorem dX9_keep_26 : decode cX9_keep 26 = .ok (.iload_n 1, 1) := by decide +kernel
theorem dX9_keep_27 : decode cX9_keep 27 = .ok (.iadd, 1) := by decide +kernel
theorem dX9_keep_28 : decode cX9_keep 28 = .ok (.aload_n 0, 1) := by decide +kernel
theorem dX9_keep_29 : decode cX9_keep 29 = .ok (.getfield 7, 3) := by decide +kernel
theorem dX9_keep_32 : decode cX9_keep 32 = .ok (.sipush 167, 3) := by decide +kernel
theorem dX9_keep_35 : decode cX9_keep 35 = .ok (.iload_n 1, 1) := by decide +kernel
theorem dX9_keep_36 : decode cX9_keep 36 = .ok (.iadd, 1) := by decide +kernel
theorem dX9_keep_37 : decode cX9_keep 37 = .ok (.iaload, 1) := by decide +kernel
theorem dX9_keep_38 : decode cX9_keep 38 = .ok (.iastore, 1) := by decide +kernel
theorem dX9_keep_39 : decode cX9_keep 39 = .ok (.iinc 1 1, 3) := by decide +kernel
theorem dX9_keep_42 : decode cX9_keep 42 = .ok (.goto (-29), 3) := by decide +kernel
theorem dX9_keep_45 : decode cX9_keep 45 = .ok (.aload_n 0, 1) := by decide +kernel
theorem dX9_keep_46 : decode cX9_keep 46 = .ok (.getfield 7, 3) := by decide +kernel
theorem dX9_keep_49 : decode cX9_keep 49 = .ok (.iconst 3, 1) := by decide +kernel
theorem dX9_keep_50 : decode cX9_keep 50 = .ok (.bipush 7, 2) := by decide +kernel
theorem dX9_keep_52 : decode cX9_keep 52 = .ok (.iastore, 1) := by decide +kernel
theorem dX9_keep_53 : decode cX9_keep 53 = .ok (.bipush 126, 2) := by decide +kernel
theorem dX9_keep_55 : decode cX9_keep 55 = .ok (.bipush 41, 2) := by decide +kernel
theorem dX9_keep_57 : decode cX9_keep 57 = .ok (.aload_n 0, 1) := by decide +kernel
theorem dX9_keep_58 : decode cX9_keep 58 = .ok (.getfield 7, 3) := by decide +kernel
theorem dX9_keep_61 : decode cX9_keep 61 = .ok (.iconst 3, 1) := by decide +kernel
theorem dX9_keep_62 : decode cX9_keep 62 = .ok (.iaload, 1) := by decide +kernel
theorem dX9_keep_63 : decode cX9_keep 63 = .ok (.imul, 1) := by decide +kernel
theorem dX9_keep_64 : decode cX9_keep 64 = .ok (.iadd, 1) := by decide +kernel
theorem dX9_keep_65 : decode cX9_keep 65 = .ok (.istore_n 1, 1) := by decide +kernel
theorem dX9_keep_66 : decode cX9_keep 66 = .ok (.iconst 0, 1) := by decide +kernel
theorem dX9_keep_67 : decode cX9_keep 67 = .ok (.istore_n 2, 1) := by decide +kernel
theorem dX9_keep_68 : decode cX9_keep 68 = .ok (.iload_n 2, 1) := by decide +kernel
theorem dX9_keep_69 : decode cX9_keep 69 = .ok (.bipush 40, 2) := by decide +kernel
theorem dX9_keep_71 : decode cX9_keep 71 = .ok (.if_icmp .ge 26, 3) := by decide +kernel
theorem dX9_keep_74 : decode cX9_keep 74 = .ok (.aload_n 0, 1) := by decide +kernel
theorem dX9_keep_75 : decode cX9_keep 75 = .ok (.getfield 7, 3) := by decide +kernel
theorem dX9_keep_78 : decode cX9_keep 78 = .ok (.iload_n 1, 1) := by decide +kernel
theorem dX9_keep_79 : decode cX9_keep 79 = .ok (.iload_n 2, 1) := by decide +kernel
theorem dX9_keep_80 : decode cX9_keep 80 = .ok (.iadd, 1) := by decide +kernel
theorem dX9_keep_81 : decode cX9_keep 81 = .ok (.aload_n 0, 1) := by decide +kernel
theorem dX9_keep_82 : decode cX9_keep 82 = .ok (.getfield 7, 3) := by decide +kernel
theorem dX9_keep_85 : decode cX9_keep 85 = .ok (.bipush 46, 2) := by decide +kernel
theorem dX9_keep_87 : decode cX9_keep 87 = .ok (.iload_n 2, 1) := by decide +kernel
theorem dX9_keep_88 : decode cX9_keep 88 = .ok (.iadd, 1) := by decide +kernel
theorem dX9_keep_89 : decode cX9_keep 89 = .ok (.iaload, 1) := by decide +kernel
theorem dX9_keep_90 : decode cX9_keep 90 = .ok (.iastore, 1) := by decide +kernel
theorem dX9_keep_91 : decode cX9_keep 91 = .ok (.iinc 2 1, 3) := by decide +kernel
theorem dX9_keep_94 : decode cX9_keep 94 = .ok (.goto (-26), 3) := by decide +kernel
theorem dX9_keep_97 : decode cX9_keep 97 = .ok (.aload_n 0, 1) := by decide +kernel
theorem dX9_keep_98 : decode cX9_keep 98 = .ok (.getfield 7, 3) := by decide +kernel
theorem dX9_keep_101 : decode cX9_keep 101 = .ok (.iload_n 1, 1) := by decide +kernel
theorem dX9_keep_102 : decode cX9_keep 102 = .ok (.bipush 40, 2) := by decide +kernel
theorem dX9_keep_104 : decode cX9_keep 104 = .ok (.iadd, 1) := by decide +kernel
theorem dX9_keep_105 : decode cX9_keep 105 = .ok (.aload_n 0, 1) := by decide +kernel
theorem dX9_keep_106 : decode cX9_keep 106 = .ok (.invokevirtual 47, 3) := by decide +kernel
theorem dX9_keep_109 : decode cX9_keep 109 = .ok (.iastore, 1) := by decide +kernel
theorem dX9_keep_110 : decode cX9_keep 110 = .ok (.aload_n 0, 1) := by decide +kernel
theorem dX9_keep_111 : decode cX9_keep 111 = .ok (.getfield 7, 3) := by decide +kernel
theorem dX9_keep_114 : decode cX9_keep 114 = .ok (.iconst 3, 1) := by decide +kernel
theorem dX9_keep_115 : decode cX9_keep 115 = .ok (.dup2, 1) := by decide +kernel
theorem dX9_keep_116 : decode cX9_keep 116 = .ok (.iaload, 1) := by decide +kernel
theorem dX9_keep_117 : decode cX9_keep 117 = .ok (.iconst 1, 1) := by decide +kernel
theorem dX9_keep_118 : decode cX9_keep 118 = .ok (.iadd, 1) := by decide +kernel
theorem dX9_keep_119 : decode cX9_keep 119 = .ok (.iastore, 1) := by decide +kernel
theorem dX9_keep_120 : decode cX9_keep 120 = .ok (.return_, 1) := by decide +kernel
theorem dX9_clause_0 : decode cX9_clause 0 = .ok (.iload_n 1, 1) := by decide +kernel
theorem dX9_clause_1 : decode cX9_clause 1 = .ok (.i2l, 1) := by decide +kernel
theorem dX9_clause_2 : decode cX9_clause 2 = .ok (.lconst 0, 1) := by decide +kernel
theorem dX9_clause_3 : decode cX9_clause 3 = .ok (.ldc2_w 50, 3) := by decide +kernel
theorem dX9_clause_6 : decode cX9_clause 6 = .ok (.invokestatic 43, 3) := by decide +kernel
theorem dX9_clause_9 : decode cX9_clause 9 = .ok (.ifCond .eq 48, 3) := by decide +kernel
theorem dX9_clause_12 : decode cX9_clause 12 = .ok (.iload_n 2, 1) := by decide +kernel
theorem dX9_clause_13 : decode cX9_clause 13 = .ok (.invokestatic 83, 3) := by decide +kernel
theorem dX9_clause_16 : decode cX9_clause 16 = .ok (.ifCond .eq 41, 3) := by decide +kernel
theorem dX9_clause_19 : decode cX9_clause 19 = .ok (.iload 4, 2) := by decide +kernel
theorem dX9_clause_21 : decode cX9_clause 21 = .ok (.i2l, 1) := by decide +kernel
theorem dX9_clause_22 : decode cX9_clause 22 = .ok (.lconst 0, 1) := by decide +kernel
theorem dX9_clause_23 : decode cX9_clause 23 = .ok (.ldc2_w 86, 3) := by decide +kernel
theorem dX9_clause_26 : decode cX9_clause 26 = .ok (.invokestatic 43, 3) := by decide +kernel
theorem dX9_clause_29 : decode cX9_clause 29 = .ok (.ifCond .eq 28, 3) := by decide +kernel
theorem dX9_clause_32 : decode cX9_clause 32 = .ok (.iload_n 3, 1) := by decide +kernel
theorem dX9_clause_33 : decode cX9_clause 33 = .ok (.i2l, 1) := by decide +kernel
theorem dX9_clause_34 : decode cX9_clause 34 = .ok (.lconst 0, 1) := by decide +kernel
theorem dX9_clause_35 : decode cX9_clause 35 = .ok (.iload 4, 2) := by decide +kernel
theorem dX9_clause_37 : decode cX9_clause 37 = .ok (.i2l, 1) := by decide +kernel
theorem dX9_clause_38 : decode cX9_clause 38 = .ok (.invokestatic 43, 3) := by decide +kernel
theorem dX9_clause_41 : decode cX9_clause 41 = .ok (.ifCond .eq 16, 3) := by decide +kernel
theorem dX9_clause_44 : decode cX9_clause 44 = .ok (.iload 5, 2) := by decide +kernel
theorem dX9_clause_46 : decode cX9_clause 46 = .ok (.i2l, 1) := by decide +kernel
theorem dX9_clause_47 : decode cX9_clause 47 = .ok (.lconst 0, 1) := by decide +kernel
theorem dX9_clause_48 : decode cX9_clause 48 = .ok (.ldc2_w 50, 3) := by decide +kernel
theorem dX9_clause_51 : decode cX9_clause 51 = .ok (.invokestatic 43, 3) := by decide +kernel
theorem dX9_clause_54 : decode cX9_clause 54 = .ok (.ifCond .ne 10, 3) := by decide +kernel
theorem dX9_clause_57 : decode cX9_clause 57 = .ok (.aload_n 0, 1) := by decide +kernel
theorem dX9_clause_58 : decode cX9_clause 58 = .ok (.bipush (-2), 2) := by decide +kernel
theorem dX9_clause_60 : decode cX9_clause 60 = .ok (.invokevirtual 62, 3) := by decide +kernel
theorem dX9_clause_63 : decode cX9_clause 63 = .ok (.ireturn, 1) := by decide +kernel
theorem dX9_clause_64 : decode cX9_clause 64 = .ok (.aload_n 0, 1) := by decide +kernel
theorem dX9_clause_65 : decode cX9_clause 65 = .ok (.invokevirtual 47, 3) := by decide +kernel
theorem dX9_clause_68 : decode cX9_clause 68 = .ok (.bipush 8, 2) := by decide +kernel
theorem dX9_clause_70 : decode cX9_clause 70 = .ok (.if_icmp .ne 8, 3) := by decide +kernel
theorem dX9_clause_73 : decode cX9_clause 73 = .ok (.aload_n 0, 1) := by decide +kernel
theorem dX9_clause_74 : decode cX9_clause 74 = .ok (.invokevirtual 66, 3) := by decide +kernel
theorem dX9_clause_77 : decode cX9_clause 77 = .ok (.ireturn, 1) := by decide +kernel
theorem dX9_clause_78 : decode cX9_clause 78 = .ok (.aload_n 0, 1) := by decide +kernel
theorem dX9_clause_79 : decode cX9_clause 79 = .ok (.invokevirtual 88, 3) := by decide +kernel
theorem dX9_clause_82 : decode cX9_clause 82 = .ok (.aload_n 0, 1) := by decide +kernel
theorem dX9_clause_83 : decode cX9_clause 83 = .ok (.getfield 7, 3) := by decide +kernel
theorem dX9_clause_86 : decode cX9_clause 86 = .ok (.iload_n 1, 1) := by decide +kernel
theorem dX9_clause_87 : decode cX9_clause 87 = .ok (.iload_n 2, 1) := by decide +kernel
theorem dX9_clause_88 : decode cX9_clause 88 = .ok (.iload_n 3, 1) := by decide +kernel
theorem dX9_clause_89 : decode cX9_clause 89 = .ok (.iload 4, 2) := by decide +kernel
theorem dX9_clause_91 : decode cX9_clause 91 = .ok (.iload 5, 2) := by decide +kernel
theorem dX9_clause_93 : decode cX9_clause 93 = .ok (.invokestatic 91, 3) := by decide +kernel
theorem dX9_clause_96 : decode cX9_clause 96 = .ok (.aload_n 0, 1) := by decide +kernel
theorem dX9_clause_97 : decode cX9_clause 97 = .ok (.invokevirtual 47, 3) := by decide +kernel
theorem dX9_clause_100 : decode cX9_clause 100 = .ok (.iconst 1, 1) := by decide +kernel
theorem dX9_clause_101 : decode cX9_clause 101 = .ok (.isub, 1) := by decide +kernel
theorem dX9_clause_102 : decode cX9_clause 102 = .ok (.ireturn, 1) := by decide +kernel
theorem dX9_strike_0 : decode cX9_strike 0 = .ok (.aload_n 0, 1) := by decide +kernel
theorem dX9_strike_1 : decode cX9_strike 1 = .ok (.iload_n 1, 1) := by decide +kernel
theorem dX9_strike_2 : decode cX9_strike 2 = .ok (.invokevirtual 95, 3) := by decide +kernel
theorem dX9_strike_5 : decode cX9_strike 5 = .ok (.ifCond .ne 10, 3) := by decide +kernel
theorem dX9_strike_8 : decode cX9_strike 8 = .ok (.aload_n 0, 1) := by decide +kernel
theorem dX9_strike_9 : decode cX9_strike 9 = .ok (.bipush (-2), 2) := by decide +kernel
theorem dX9_strike_11 : decode cX9_strike 11 = .ok (.invokevirtual 62, 3) := by decide +kernel
theorem dX9_strike_14 : decode cX9_strike 14 = .ok (.ireturn, 1) := by decide +kernel
theorem dX9_strike_15 : decode cX9_strike 15 = .ok (.aload_n 0, 1) := by decide +kernel
theorem dX9_strike_16 : decode cX9_strike 16 = .ok (.invokevirtual 88, 3) := by decide +kernel
theorem dX9_strike_19 : decode cX9_strike 19 = .ok (.iconst 5, 1) := by decide +kernel
theorem dX9_strike_20 : decode cX9_strike 20 = .ok (.iload_n 1, 1) := by decide +kernel
theorem dX9_strike_21 : decode cX9_strike 21 = .ok (.imul, 1) := by decide +kernel
theorem dX9_strike_22 : decode cX9_strike 22 = .ok (.istore_n 2, 1) := by decide +kernel
theorem dX9_strike_23 : decode cX9_strike 23 = .ok (.iload_n 2, 1) := by decide +kernel
theorem dX9_strike_24 : decode cX9_strike 24 = .ok (.bipush 35, 2) := by decide +kernel
theorem dX9_strike_26 : decode cX9_strike 26 = .ok (.if_icmp .ge 29, 3) := by decide +kernel
theorem dX9_strike_29 : decode cX9_strike 29 = .ok (.aload_n 0, 1) := by decide +kernel
theorem dX9_strike_30 : decode cX9_strike 30 = .ok (.getfield 7, 3) := by decide +kernel
theorem dX9_strike_33 : decode cX9_strike 33 = .ok (.bipush 46, 2) := by decide +kernel
theorem dX9_strike_35 : decode cX9_strike 35 = .ok (.iload_n 2, 1) := by decide +kernel
theorem dX9_strike_36 : decode cX9_strike 36 = .ok (.iadd, 1) := by decide +kernel
theorem dX9_strike_37 : decode cX9_strike 37 = .ok (.aload_n 0, 1) := by decide +kernel
theorem dX9_strike_38 : decode cX9_strike 38 = .ok (.getfield 7, 3) := by decide +kernel
theorem dX9_strike_41 : decode cX9_strike 41 = .ok (.bipush 46, 2) := by decide +kernel
theorem dX9_strike_43 : decode cX9_strike 43 = .ok (.iload_n 2, 1) := by decide +kernel
theorem dX9_strike_44 : decode cX9_strike 44 = .ok (.iadd, 1) := by decide +kernel
theorem dX9_strike_45 : decode cX9_strike 45 = .ok (.iconst 5, 1) := by decide +kernel
theorem dX9_strike_46 : decode cX9_strike 46 = .ok (.iadd, 1) := by decide +kernel
theorem dX9_strike_47 : decode cX9_strike 47 = .ok (.iaload, 1) := by decide +kernel
theorem dX9_strike_48 : decode cX9_strike 48 = .ok (.iastore, 1) := by decide +kernel
theorem dX9_strike_49 : decode cX9_strike 49 = .ok (.iinc 2 1, 3) := by decide +kernel
theorem dX9_strike_52 : decode cX9_strike 52 = .ok (.goto (-29), 3) := by decide +kernel
theorem dX9_strike_55 : decode cX9_strike 55 = .ok (.aload_n 0, 1) := by decide +kernel
theorem dX9_strike_56 : decode cX9_strike 56 = .ok (.getfield 7, 3) := by decide +kernel
theorem dX9_strike_59 : decode cX9_strike 59 = .ok (.iconst 1, 1) := by decide +kernel
theorem dX9_strike_60 : decode cX9_strike 60 = .ok (.dup2, 1) := by decide +kernel
theorem dX9_strike_61 : decode cX9_strike 61 = .ok (.iaload, 1) := by decide +kernel
theorem dX9_strike_62 : decode cX9_strike 62 = .ok (.iconst 1, 1) := by decide +kernel
theorem dX9_strike_63 : decode cX9_strike 63 = .ok (.isub, 1) := by decide +kernel
theorem dX9_strike_64 : decode cX9_strike 64 = .ok (.iastore, 1) := by decide +kernel
theorem dX9_strike_65 : decode cX9_strike 65 = .ok (.aload_n 0, 1) := by decide +kernel
theorem dX9_strike_66 : decode cX9_strike 66 = .ok (.invokevirtual 47, 3) := by decide +kernel
theorem dX9_strike_69 : decode cX9_strike 69 = .ok (.ireturn, 1) := by decide +kernel
theorem dX9_undo_0 : decode cX9_undo 0 = .ok (.aload_n 0, 1) := by decide +kernel
theorem dX9_undo_1 : decode cX9_undo 1 = .ok (.getfield 7, 3) := by decide +kernel
theorem dX9_undo_4 : decode cX9_undo 4 = .ok (.iconst 3, 1) := by decide +kernel
theorem dX9_undo_5 : decode cX9_undo 5 = .ok (.iaload, 1) := by decide +kernel
theorem dX9_undo_6 : decode cX9_undo 6 = .ok (.ifCond .ne 8, 3) := by decide +kernel
theorem dX9_undo_9 : decode cX9_undo 9 = .ok (.aload_n 0, 1) := by decide +kernel
theorem dX9_undo_10 : decode cX9_undo 10 = .ok (.invokevirtual 98, 3) := by decide +kernel
theorem dX9_undo_13 : decode cX9_undo 13 = .ok (.ireturn, 1) := by decide +kernel
theorem dX9_undo_14 : decode cX9_undo 14 = .ok (.aload_n 0, 1) := by decide +kernel
theorem dX9_undo_15 : decode cX9_undo 15 = .ok (.getfield 7, 3) := by decide +kernel
theorem dX9_undo_18 : decode cX9_undo 18 = .ok (.iconst 3, 1) := by decide +kernel
theorem dX9_undo_19 : decode cX9_undo 19 = .ok (.dup2, 1) := by decide +kernel
theorem dX9_undo_20 : decode cX9_undo 20 = .ok (.iaload, 1) := by decide +kernel
theorem dX9_undo_21 : decode cX9_undo 21 = .ok (.iconst 1, 1) := by decide +kernel
theorem dX9_undo_22 : decode cX9_undo 22 = .ok (.isub, 1) := by decide +kernel
theorem dX9_undo_23 : decode cX9_undo 23 = .ok (.iastore, 1) := by decide +kernel
theorem dX9_undo_24 : decode cX9_undo 24 = .ok (.bipush 126, 2) := by decide +kernel
theorem dX9_undo_26 : decode cX9_undo 26 = .ok (.bipush 41, 2) := by decide +kernel
theorem dX9_undo_28 : decode cX9_undo 28 = .ok (.aload_n 0, 1) := by decide +kernel
theorem dX9_undo_29 : decode cX9_undo 29 = .ok (.getfield 7, 3) := by decide +kernel
theorem dX9_undo_32 : decode cX9_undo 32 = .ok (.iconst 3, 1) := by decide +kernel
theorem dX9_undo_33 : decode cX9_undo 33 = .ok (.iaload, 1) := by decide +kernel
theorem dX9_undo_34 : decode cX9_undo 34 = .ok (.imul, 1) := by decide +kernel
theorem dX9_undo_35 : decode cX9_undo 35 = .ok (.iadd, 1) := by decide +kernel
theorem dX9_undo_36 : decode cX9_undo 36 = .ok (.istore_n 1, 1) := by decide +kernel
theorem dX9_undo_37 : decode cX9_undo 37 = .ok (.iconst 0, 1) := by decide +kernel
theorem dX9_undo_38 : decode cX9_undo 38 = .ok (.istore_n 2, 1) := by decide +kernel
theorem dX9_undo_39 : decode cX9_undo 39 = .ok (.iload_n 2, 1) := by decide +kernel
theorem dX9_undo_40 : decode cX9_undo 40 = .ok (.bipush 40, 2) := by decide +kernel
theorem dX9_undo_42 : decode cX9_undo 42 = .ok (.if_icmp .ge 26, 3) := by decide +kernel
theorem dX9_undo_45 : decode cX9_undo 45 = .ok (.aload_n 0, 1) := by decide +kernel
theorem dX9_undo_46 : decode cX9_undo 46 = .ok (.getfield 7, 3) := by decide +kernel
theorem dX9_undo_49 : decode cX9_undo 49 = .ok (.bipush 46, 2) := by decide +kernel
theorem dX9_undo_51 : decode cX9_undo 51 = .ok (.iload_n 2, 1) := by decide +kernel
theorem dX9_undo_52 : decode cX9_undo 52 = .ok (.iadd, 1) := by decide +kernel
theorem dX9_undo_53 : decode cX9_undo 53 = .ok (.aload_n 0, 1) := by decide +kernel
theorem dX9_undo_54 : decode cX9_undo 54 = .ok (.getfield 7, 3) := by decide +kernel
theorem dX9_undo_57 : decode cX9_undo 57 = .ok (.iload_n 1, 1) := by decide +kernel
theorem dX9_undo_58 : decode cX9_undo 58 = .ok (.iload_n 2, 1) := by decide +kernel
theorem dX9_undo_59 : decode cX9_undo 59 = .ok (.iadd, 1) := by decide +kernel
theorem dX9_undo_60 : decode cX9_undo 60 = .ok (.iaload, 1) := by decide +kernel
theorem dX9_undo_61 : decode cX9_undo 61 = .ok (.iastore, 1) := by decide +kernel
theorem dX9_undo_62 : decode cX9_undo 62 = .ok (.iinc 2 1, 3) := by decide +kernel
theorem dX9_undo_65 : decode cX9_undo 65 = .ok (.goto (-26), 3) := by decide +kernel
theorem dX9_undo_68 : decode cX9_undo 68 = .ok (.aload_n 0, 1) := by decide +kernel
theorem dX9_undo_69 : decode cX9_undo 69 = .ok (.getfield 7, 3) := by decide +kernel
theorem dX9_undo_72 : decode cX9_undo 72 = .ok (.iconst 1, 1) := by decide +kernel
theorem dX9_undo_73 : decode cX9_undo 73 = .ok (.aload_n 0, 1) := by decide +kernel
theorem dX9_undo_74 : decode cX9_undo 74 = .ok (.getfield 7, 3) := by decide +kernel
theorem dX9_undo_77 : decode cX9_undo 77 = .ok (.iload_n 1, 1) := by decide +kernel
theorem dX9_undo_78 : decode cX9_undo 78 = .ok (.bipush 40, 2) := by decide +kernel
theorem dX9_undo_80 : decode cX9_undo 80 = .ok (.iadd, 1) := by decide +kernel
theorem dX9_undo_81 : decode cX9_undo 81 = .ok (.iaload, 1) := by decide +kernel
theorem dX9_undo_82 : decode cX9_undo 82 = .ok (.iastore, 1) := by decide +kernel
theorem dX9_undo_83 : decode cX9_undo 83 = .ok (.aload_n 0, 1) := by decide +kernel
theorem dX9_undo_84 : decode cX9_undo 84 = .ok (.invokevirtual 47, 3) := by decide +kernel
theorem dX9_undo_87 : decode cX9_undo 87 = .ok (.ireturn, 1) := by decide +kernel
theorem kX9_towns : zCV yX9_towns RX9 cX9_towns 1 (some .int) 0 := ⟨q4_78, qp17, q1_3, q4_79, rfl, by decide +kernel, by decide +kernel, by decide +kernel⟩
theorem kX9_clauses : zCV yX9_clauses RX9 cX9_clauses 1 (some .int) 0 := ⟨q4_125, qp21, q1_3, q4_126, rfl, by decide +kernel, by decide +kernel, by decide +kernel⟩
theorem kX9_isTown : zCV yX9_isTown RX9 cX9_isTown 2 (some .boolean) 1 := ⟨q4_108, qp20, q1_3, q4_109, rfl, by decide +kernel, by decide +kernel, by decide +kernel⟩
theorem kX9_isClause : zCV yX9_isClause RX9 cX9_isClause 2 (some .boolean) 1 := ⟨q4_140, qp23, q1_3, q4_141, rfl, by decide +kernel, by decide +kernel, by decide +kernel⟩
theorem kX9_isAct : zCS yX9_isAct cX9_isAct 1 (some .boolean) 1 := ⟨q4_120, q1_3, q4_121, by decide +kernel, by decide +kernel, by decide +kernel⟩
theorem kX9_isDay : zCS yX9_isDay cX9_isDay 1 (some .boolean) 1 := ⟨q4_171, q1_3, q4_172, by decide +kernel, by decide +kernel, by decide +kernel⟩
theorem kX9_areActs : zCS yX9_areActs cX9_areActs 1 (some .boolean) 1 := ⟨q4_220, q1_3, q4_221, by decide +kernel, by decide +kernel, by decide +kernel⟩
theorem kX9_isAsker : zCS yX9_isAsker cX9_isAsker 2 (some .boolean) 2 := ⟨q4_175, q1_3, q4_176, by decide +kernel, by decide +kernel, by decide +kernel⟩
theorem kX9_has : zCV yX9_has RX9 cX9_has 3 (some .int) 2 := ⟨q4_157, qp25, q1_3, q4_158, rfl, by decide +kernel, by decide +kernel, by decide +kernel⟩
theorem kX9_land : zCV yX9_land RX9 cX9_land 2 (some .int) 0 := ⟨q4_73, q4_74, q1_3, q4_75, rfl, by decide +kernel, by decide +kernel, by decide +kernel⟩
theorem kX9_layTown : zCS yX9_layTown cX9_layTown 2 none 2 := ⟨q4_100, q1_3, q4_101, by decide +kernel, by decide +kernel, by decide +kernel⟩
theorem kX9_town : zCV yX9_town RX9 cX9_town 2 (some .int) 1 := ⟨q4_84, q4_85, q1_3, q4_86, rfl, by decide +kernel, by decide +kernel, by decide +kernel⟩
theorem kX9_layRoad : zCS yX9_layRoad cX9_layRoad 4 none 4 := ⟨q4_112, q1_3, q4_113, by decide +kernel, by decide +kernel, by decide +kernel⟩
theorem kX9_road : zCV yX9_road RX9 cX9_road 5 (some .int) 3 := ⟨q4_103, q4_104, q1_3, q4_105, rfl, by decide +kernel, by decide +kernel, by decide +kernel⟩
theorem kX9_layClause : zCS yX9_layClause cX9_layClause 7 none 6 := ⟨q4_132, q1_3, q4_133, by decide +kernel, by decide +kernel, by decide +kernel⟩
theorem kX9_keep : zCV yX9_keep RX9 cX9_keep 3 none 0 := ⟨q4_129, qp22, q1_3, q4_130, rfl, by decide +kernel, by decide +kernel, by decide +kernel⟩
theorem kX9_clause : zCV yX9_clause RX9 cX9_clause 6 (some .int) 5 := ⟨q4_115, q4_116, q1_3, q4_117, rfl, by decide +kernel, by decide +kernel, by decide +kernel⟩
theorem kX9_strike : zCV yX9_strike RX9 cX9_strike 3 (some .int) 1 := ⟨q4_135, q4_136, q1_3, q4_137, rfl, by decide +kernel, by decide +kernel, by decide +kernel⟩
theorem kX9_undo : zCV yX9_undo RX9 cX9_undo 3 (some .int) 0 := ⟨q4_143, q4_144, q1_3, q4_145, rfl, by decide +kernel, by decide +kernel, by decide +kernel⟩
set_option maxHeartbeats 4000000 in
set_option maxRecDepth 100000 in
theorem c_X9_towns (l : Launch) (g : zG) (o : Nat) (a : Nat → Nat) (F : Nat → Int32) (L : Nat → Int64) (A : Nat → Nat → Int32) (X : va_W) (T : Nat) (hT : A 0 0 = nI T) : Met l yX9_towns (Cond.code yX9_towns cX9_towns 1 (some .int) :: TBL) { frames := 0, cells := 0, slots := 0, locals := 0 } (zPc [.ref o] g (mW g o a F L A ++ X)) (zQi g (fun r ws => r = nI T ∧ ws = mW g o a F L A ++ X)) 0 0 (zA (gz g)) := by
  refine z_start (by decide +kernel) rfl (Nat.le_of_ble_eq_true rfl) ?_
  intro p e s m args below meth c ls hE hr hnm hB hl
  have hl : lv_has ls 1 [(0, .ref o)] := hl
  revert hB
  generalize s.heap = H
  generalize ([] : List Loc) = locs
  intro hB
  refine lv_aload_n hE.x hE.b dX9_towns_0 rfl (lv_at hl 0 rfl) ?_
  refine z_get (v := .ref (a 0)) hE hB inX9 0 rfl rfl 0 (by decide) q4_1 (fun _ h9 => h9) rfl dX9_towns_1 ?_
  refine lv_iconst (v := nI 0) hE.x hE.b dX9_towns_4 rfl ?_
  refine z_iald (k := 0) (f := (A 0)) hE hB 1 rfl (by omega) (by decide) dX9_towns_5 ?_
  refine z_top (y := (nI T)) hT ?_
  exact z_iret (v := (nI T)) (ws := mW g o a F L A ++ X) hE hB hr (⟨rfl, rfl⟩) dX9_towns_6

set_option maxHeartbeats 4000000 in
set_option maxRecDepth 100000 in
theorem c_X9_clauses (l : Launch) (g : zG) (o : Nat) (a : Nat → Nat) (F : Nat → Int32) (L : Nat → Int64) (A : Nat → Nat → Int32) (X : va_W) (C : Nat) (hC : A 0 1 = nI C) : Met l yX9_clauses (Cond.code yX9_clauses cX9_clauses 1 (some .int) :: TBL) { frames := 0, cells := 0, slots := 0, locals := 0 } (zPc [.ref o] g (mW g o a F L A ++ X)) (zQi g (fun r ws => r = nI C ∧ ws = mW g o a F L A ++ X)) 0 0 (zA (gz g)) := by
  refine z_start (by decide +kernel) rfl (Nat.le_of_ble_eq_true rfl) ?_
  intro p e s m args below meth c ls hE hr hnm hB hl
  have hl : lv_has ls 1 [(0, .ref o)] := hl
  revert hB
  generalize s.heap = H
  generalize ([] : List Loc) = locs
  intro hB
  refine lv_aload_n hE.x hE.b dX9_clauses_0 rfl (lv_at hl 0 rfl) ?_
  refine z_get (v := .ref (a 0)) hE hB inX9 0 rfl rfl 0 (by decide) q4_1 (fun _ h9 => h9) rfl dX9_clauses_1 ?_
  refine lv_iconst (v := nI 1) hE.x hE.b dX9_clauses_4 rfl ?_
  refine z_iald (k := 1) (f := (A 0)) hE hB 1 rfl (by omega) (by decide) dX9_clauses_5 ?_
  refine z_top (y := (nI C)) hC ?_
  exact z_iret (v := (nI C)) (ws := mW g o a F L A ++ X) hE hB hr (⟨rfl, rfl⟩) dX9_clauses_6

set_option maxHeartbeats 4000000 in
set_option maxRecDepth 100000 in
theorem c_X9_isTown (l : Launch) (g : zG) (o : Nat) (a : Nat → Nat) (F : Nat → Int32) (L : Nat → Int64) (A : Nat → Nat → Int32) (X : va_W) (T : Nat) (t : Int32) (hT : A 0 0 = nI T) (h8 : T ≤ 8) : Met l yX9_isTown (Cond.code yX9_isTown cX9_isTown 2 (some .boolean) :: TBL) { frames := 1, cells := 0, slots := 0, locals := 25 } (zPc [.ref o, .int t] g (mW g o a F L A ++ X)) (zQi g (fun r ws => r = bI (pTown T t) ∧ ws = mW g o a F L A ++ X)) 0 0 (zA (gz g)) := by
  refine z_start (by decide +kernel) rfl (Nat.le_of_ble_eq_true rfl) ?_
  intro p e s m args below meth c ls hE hr hnm hB hl
  have hl : lv_has ls 2 [(0, .ref o), (1, .int t)] := hl
  revert hB
  generalize s.heap = H
  generalize ([] : List Loc) = locs
  intro hB
  refine lv_iload_n hE.x hE.b dX9_isTown_0 rfl (lv_at hl 1 rfl) ?_
  refine lv_i2l hE.x hE.b dX9_isTown_1 rfl ?_
  refine lv_lconst (v := lN 0) hE.x hE.b dX9_isTown_2 rfl ?_
  refine lv_aload_n hE.x hE.b dX9_isTown_3 rfl (lv_at hl 0 rfl) ?_
  refine z_qi hB (z_cV hE hB (c_X9_towns l g o a F L A X T hT) q4_76 kX9_towns ⟨rfl, rfl⟩ ⟨Nat.le_of_ble_eq_true rfl, Nat.le_of_ble_eq_true rfl⟩ 0 rfl rfl rfl hl.1 rfl (Nat.le_of_ble_eq_true rfl) dX9_isTown_4 ⟨Nat.le_of_ble_eq_true rfl, Nat.le_of_ble_eq_true rfl⟩) (fun r_1 w_2 H locs hw hB => ?_)
  obtain ⟨hr9, hw9⟩ := hw
  have hr9 := hr9.symm
  subst hr9
  have hw9 := hw9.symm
  subst hw9
  refine lv_iconst (v := nI 1) hE.x hE.b dX9_isTown_7 rfl ?_
  refine lv_isub hE.x hE.b dX9_isTown_8 ?_
  refine lv_i2l hE.x hE.b dX9_isTown_9 rfl ?_
  refine z_qi hB (z_cS hE hB (c_X9_in l g (Int32.toInt64 t) (lN 0) (Int32.toInt64 ((nI T) - (nI 1))) (Int32.toInt t) 0 (Int32.toInt ((nI T) - (nI 1))) (mW g o a F L A ++ X) (Int32.toInt_toInt64 _) (by decide) (Int32.toInt_toInt64 _)) q4_88 kX9_in ⟨rfl, rfl⟩ ⟨Nat.le_of_ble_eq_true rfl, Nat.le_of_ble_eq_true rfl⟩ rfl hl.1 rfl (Nat.le_of_ble_eq_true rfl) dX9_isTown_10 ⟨Nat.le_of_ble_eq_true rfl, Nat.le_of_ble_eq_true rfl⟩) (fun r_3 w_4 H locs hw hB => ?_)
  obtain ⟨hr9, hw9⟩ := hw
  have hr9 := hr9.symm
  subst hr9
  have hw9 := hw9.symm
  subst hw9
  exact z_bret (b := (inZ 0 (Int32.toInt ((nI T) - (nI 1))) (Int32.toInt t))) (ws := mW g o a F L A ++ X) hE hB hr (⟨bI_dec (by rw [pk_sub_toInt (by omega) (by omega)]; omega), rfl⟩) dX9_isTown_13

set_option maxHeartbeats 4000000 in
set_option maxRecDepth 100000 in
theorem c_X9_isClause (l : Launch) (g : zG) (o : Nat) (a : Nat → Nat) (F : Nat → Int32) (L : Nat → Int64) (A : Nat → Nat → Int32) (X : va_W) (C : Nat) (t : Int32) (hC : A 0 1 = nI C) (h8 : C ≤ 8) : Met l yX9_isClause (Cond.code yX9_isClause cX9_isClause 2 (some .boolean) :: TBL) { frames := 1, cells := 0, slots := 0, locals := 25 } (zPc [.ref o, .int t] g (mW g o a F L A ++ X)) (zQi g (fun r ws => r = bI (pTown C t) ∧ ws = mW g o a F L A ++ X)) 0 0 (zA (gz g)) := by
  refine z_start (by decide +kernel) rfl (Nat.le_of_ble_eq_true rfl) ?_
  intro p e s m args below meth c ls hE hr hnm hB hl
  have hl : lv_has ls 2 [(0, .ref o), (1, .int t)] := hl
  revert hB
  generalize s.heap = H
  generalize ([] : List Loc) = locs
  intro hB
  refine lv_iload_n hE.x hE.b dX9_isClause_0 rfl (lv_at hl 1 rfl) ?_
  refine lv_i2l hE.x hE.b dX9_isClause_1 rfl ?_
  refine lv_lconst (v := lN 0) hE.x hE.b dX9_isClause_2 rfl ?_
  refine lv_aload_n hE.x hE.b dX9_isClause_3 rfl (lv_at hl 0 rfl) ?_
  refine z_qi hB (z_cV hE hB (c_X9_clauses l g o a F L A X C hC) q4_123 kX9_clauses ⟨rfl, rfl⟩ ⟨Nat.le_of_ble_eq_true rfl, Nat.le_of_ble_eq_true rfl⟩ 0 rfl rfl rfl hl.1 rfl (Nat.le_of_ble_eq_true rfl) dX9_isClause_4 ⟨Nat.le_of_ble_eq_true rfl, Nat.le_of_ble_eq_true rfl⟩) (fun r_1 w_2 H locs hw hB => ?_)
  obtain ⟨hr9, hw9⟩ := hw
  have hr9 := hr9.symm
  subst hr9
  have hw9 := hw9.symm
  subst hw9
  refine lv_iconst (v := nI 1) hE.x hE.b dX9_isClause_7 rfl ?_
  refine lv_isub hE.x hE.b dX9_isClause_8 ?_
  refine lv_i2l hE.x hE.b dX9_isClause_9 rfl ?_
  refine z_qi hB (z_cS hE hB (c_X9_in l g (Int32.toInt64 t) (lN 0) (Int32.toInt64 ((nI C) - (nI 1))) (Int32.toInt t) 0 (Int32.toInt ((nI C) - (nI 1))) (mW g o a F L A ++ X) (Int32.toInt_toInt64 _) (by decide) (Int32.toInt_toInt64 _)) q4_88 kX9_in ⟨rfl, rfl⟩ ⟨Nat.le_of_ble_eq_true rfl, Nat.le_of_ble_eq_true rfl⟩ rfl hl.1 rfl (Nat.le_of_ble_eq_true rfl) dX9_isClause_10 ⟨Nat.le_of_ble_eq_true rfl, Nat.le_of_ble_eq_true rfl⟩) (fun r_3 w_4 H locs hw hB => ?_)
  obtain ⟨hr9, hw9⟩ := hw
  have hr9 := hr9.symm
  subst hr9
  have hw9 := hw9.symm
  subst hw9
  exact z_bret (b := (inZ 0 (Int32.toInt ((nI C) - (nI 1))) (Int32.toInt t))) (ws := mW g o a F L A ++ X) hE hB hr (⟨bI_dec (by rw [pk_sub_toInt (by omega) (by omega)]; omega), rfl⟩) dX9_isClause_13

set_option maxHeartbeats 4000000 in
set_option maxRecDepth 100000 in
theorem c_X9_isAct (l : Launch) (g : zG) (t : Int32) (X : va_W)  : Met l yX9_isAct (Cond.code yX9_isAct cX9_isAct 1 (some .boolean) :: TBL) { frames := 1, cells := 0, slots := 0, locals := 25 } (zPc [.int t] g (X)) (zQi g (fun r ws => r = bI (pIn 0 5 t) ∧ ws = X)) 0 0 (zA (gz g)) := by
  refine z_start (by decide +kernel) rfl (Nat.le_of_ble_eq_true rfl) ?_
  intro p e s m args below meth c ls hE hr hnm hB hl
  have hl : lv_has ls 1 [(0, .int t)] := hl
  revert hB
  generalize s.heap = H
  generalize ([] : List Loc) = locs
  intro hB
  refine lv_iload_n hE.x hE.b dX9_isAct_0 rfl (lv_at hl 0 rfl) ?_
  refine lv_i2l hE.x hE.b dX9_isAct_1 rfl ?_
  refine lv_lconst (v := lN 0) hE.x hE.b dX9_isAct_2 rfl ?_
  refine lv_ldc2 (v := lN 5) hE.x hE.b hE.o (hE.t _ q4_118) dX9_isAct_3 ?_
  refine z_qi hB (z_cS hE hB (c_X9_in l g (Int32.toInt64 t) (lN 0) (lN 5) (Int32.toInt t) 0 5 (X) (Int32.toInt_toInt64 _) (by decide) (by decide)) q4_88 kX9_in ⟨rfl, rfl⟩ ⟨Nat.le_of_ble_eq_true rfl, Nat.le_of_ble_eq_true rfl⟩ rfl hl.1 rfl (Nat.le_of_ble_eq_true rfl) dX9_isAct_6 ⟨Nat.le_of_ble_eq_true rfl, Nat.le_of_ble_eq_true rfl⟩) (fun r_1 w_2 H locs hw hB => ?_)
  obtain ⟨hr9, hw9⟩ := hw
  have hr9 := hr9.symm
  subst hr9
  have hw9 := hw9.symm
  subst hw9
  exact z_bret (b := (inZ 0 5 (Int32.toInt t))) (ws := X) hE hB hr (⟨rfl, rfl⟩) dX9_isAct_9

set_option maxHeartbeats 4000000 in
set_option maxRecDepth 100000 in
theorem c_X9_isDay (l : Launch) (g : zG) (t : Int32) (X : va_W)  : Met l yX9_isDay (Cond.code yX9_isDay cX9_isDay 1 (some .boolean) :: TBL) { frames := 1, cells := 0, slots := 0, locals := 25 } (zPc [.int t] g (X)) (zQi g (fun r ws => r = bI (pIn 0 59 t) ∧ ws = X)) 0 0 (zA (gz g)) := by
  refine z_start (by decide +kernel) rfl (Nat.le_of_ble_eq_true rfl) ?_
  intro p e s m args below meth c ls hE hr hnm hB hl
  have hl : lv_has ls 1 [(0, .int t)] := hl
  revert hB
  generalize s.heap = H
  generalize ([] : List Loc) = locs
  intro hB
  refine lv_iload_n hE.x hE.b dX9_isDay_0 rfl (lv_at hl 0 rfl) ?_
  refine lv_i2l hE.x hE.b dX9_isDay_1 rfl ?_
  refine lv_lconst (v := lN 0) hE.x hE.b dX9_isDay_2 rfl ?_
  refine lv_ldc2 (v := lN 59) hE.x hE.b hE.o (hE.t _ q4_173) dX9_isDay_3 ?_
  refine z_qi hB (z_cS hE hB (c_X9_in l g (Int32.toInt64 t) (lN 0) (lN 59) (Int32.toInt t) 0 59 (X) (Int32.toInt_toInt64 _) (by decide) (by decide)) q4_88 kX9_in ⟨rfl, rfl⟩ ⟨Nat.le_of_ble_eq_true rfl, Nat.le_of_ble_eq_true rfl⟩ rfl hl.1 rfl (Nat.le_of_ble_eq_true rfl) dX9_isDay_6 ⟨Nat.le_of_ble_eq_true rfl, Nat.le_of_ble_eq_true rfl⟩) (fun r_1 w_2 H locs hw hB => ?_)
  obtain ⟨hr9, hw9⟩ := hw
  have hr9 := hr9.symm
  subst hr9
  have hw9 := hw9.symm
  subst hw9
  exact z_bret (b := (inZ 0 59 (Int32.toInt t))) (ws := X) hE hB hr (⟨rfl, rfl⟩) dX9_isDay_9

set_option maxHeartbeats 4000000 in
set_option maxRecDepth 100000 in
theorem c_X9_areActs (l : Launch) (g : zG) (t : Int32) (X : va_W)  : Met l yX9_areActs (Cond.code yX9_areActs cX9_areActs 1 (some .boolean) :: TBL) { frames := 1, cells := 0, slots := 0, locals := 25 } (zPc [.int t] g (X)) (zQi g (fun r ws => r = bI (pIn 0 63 t) ∧ ws = X)) 0 0 (zA (gz g)) := by
  refine z_start (by decide +kernel) rfl (Nat.le_of_ble_eq_true rfl) ?_
  intro p e s m args below meth c ls hE hr hnm hB hl
  have hl : lv_has ls 1 [(0, .int t)] := hl
  revert hB
  generalize s.heap = H
  generalize ([] : List Loc) = locs
  intro hB
  refine lv_iload_n hE.x hE.b dX9_areActs_0 rfl (lv_at hl 0 rfl) ?_
  refine lv_i2l hE.x hE.b dX9_areActs_1 rfl ?_
  refine lv_lconst (v := lN 0) hE.x hE.b dX9_areActs_2 rfl ?_
  refine lv_ldc2 (v := lN 63) hE.x hE.b hE.o (hE.t _ q4_222) dX9_areActs_3 ?_
  refine z_qi hB (z_cS hE hB (c_X9_in l g (Int32.toInt64 t) (lN 0) (lN 63) (Int32.toInt t) 0 63 (X) (Int32.toInt_toInt64 _) (by decide) (by decide)) q4_88 kX9_in ⟨rfl, rfl⟩ ⟨Nat.le_of_ble_eq_true rfl, Nat.le_of_ble_eq_true rfl⟩ rfl hl.1 rfl (Nat.le_of_ble_eq_true rfl) dX9_areActs_6 ⟨Nat.le_of_ble_eq_true rfl, Nat.le_of_ble_eq_true rfl⟩) (fun r_1 w_2 H locs hw hB => ?_)
  obtain ⟨hr9, hw9⟩ := hw
  have hr9 := hr9.symm
  subst hr9
  have hw9 := hw9.symm
  subst hw9
  exact z_bret (b := (inZ 0 63 (Int32.toInt t))) (ws := X) hE hB hr (⟨rfl, rfl⟩) dX9_areActs_9

set_option maxHeartbeats 4000000 in
set_option maxRecDepth 100000 in
theorem c_X9_isAsker (l : Launch) (g : zG) (d : Int32) (z : Int32) (X : va_W)  : Met l yX9_isAsker (Cond.code yX9_isAsker cX9_isAsker 2 (some .boolean) :: TBL) { frames := 1, cells := 0, slots := 0, locals := 25 } (zPc [.int d, .int z] g (X)) (zQi g (fun r ws => r = bI (pIn 0 1 d && pIn 0 1 z) ∧ ws = X)) 0 0 (zA (gz g)) := by
  refine z_start (by decide +kernel) rfl (Nat.le_of_ble_eq_true rfl) ?_
  intro p e s m args below meth c ls hE hr hnm hB hl
  have hl : lv_has ls 2 [(0, .int d), (1, .int z)] := hl
  revert hB
  generalize s.heap = H
  generalize ([] : List Loc) = locs
  intro hB
  refine lv_iload_n hE.x hE.b dX9_isAsker_0 rfl (lv_at hl 0 rfl) ?_
  refine lv_i2l hE.x hE.b dX9_isAsker_1 rfl ?_
  refine lv_lconst (v := lN 0) hE.x hE.b dX9_isAsker_2 rfl ?_
  refine lv_lconst (v := lN 1) hE.x hE.b dX9_isAsker_3 rfl ?_
  refine z_qi hB (z_cS hE hB (c_X9_in l g (Int32.toInt64 d) (lN 0) (lN 1) (Int32.toInt d) 0 1 (X) (Int32.toInt_toInt64 _) (by decide) (by decide)) q4_88 kX9_in ⟨rfl, rfl⟩ ⟨Nat.le_of_ble_eq_true rfl, Nat.le_of_ble_eq_true rfl⟩ rfl hl.1 rfl (Nat.le_of_ble_eq_true rfl) dX9_isAsker_4 ⟨Nat.le_of_ble_eq_true rfl, Nat.le_of_ble_eq_true rfl⟩) (fun r_1 w_2 H locs hw hB => ?_)
  obtain ⟨hr9, hw9⟩ := hw
  have hr9 := hr9.symm
  subst hr9
  have hw9 := hw9.symm
  subst hw9
  refine z_bf (b := (inZ 0 1 (Int32.toInt d))) (tgt := 24) hE dX9_isAsker_7 (by decide) (fun c_3 => ?_) (fun c_3 => ?_)
  · refine lv_iconst (v := nI 0) hE.x hE.b dX9_isAsker_24 rfl ?_
    exact z_bret (b := false) (ws := X) hE hB hr (⟨congrArg bI (by simp [c_3]), rfl⟩) dX9_isAsker_25
  · refine lv_iload_n hE.x hE.b dX9_isAsker_10 rfl (lv_at hl 1 rfl) ?_
    refine lv_i2l hE.x hE.b dX9_isAsker_11 rfl ?_
    refine lv_lconst (v := lN 0) hE.x hE.b dX9_isAsker_12 rfl ?_
    refine lv_lconst (v := lN 1) hE.x hE.b dX9_isAsker_13 rfl ?_
    refine z_qi hB (z_cS hE hB (c_X9_in l g (Int32.toInt64 z) (lN 0) (lN 1) (Int32.toInt z) 0 1 (X) (Int32.toInt_toInt64 _) (by decide) (by decide)) q4_88 kX9_in ⟨rfl, rfl⟩ ⟨Nat.le_of_ble_eq_true rfl, Nat.le_of_ble_eq_true rfl⟩ rfl hl.1 rfl (Nat.le_of_ble_eq_true rfl) dX9_isAsker_14 ⟨Nat.le_of_ble_eq_true rfl, Nat.le_of_ble_eq_true rfl⟩) (fun r_4 w_5 H locs hw hB => ?_)
    obtain ⟨hr9, hw9⟩ := hw
    have hr9 := hr9.symm
    subst hr9
    have hw9 := hw9.symm
    subst hw9
    refine z_bf (b := (inZ 0 1 (Int32.toInt z))) (tgt := 24) hE dX9_isAsker_17 (by decide) (fun c_6 => ?_) (fun c_6 => ?_)
    · refine lv_iconst (v := nI 0) hE.x hE.b dX9_isAsker_24 rfl ?_
      exact z_bret (b := false) (ws := X) hE hB hr (⟨congrArg bI (by simp [c_3, c_6]), rfl⟩) dX9_isAsker_25
    · refine lv_iconst (v := nI 1) hE.x hE.b dX9_isAsker_20 rfl ?_
      refine lv_goto (tgt := 25) hE.x hE.b dX9_isAsker_21 (by decide) ?_
      exact z_bret (b := true) (ws := X) hE hB hr (⟨congrArg bI (by simp [c_3, c_6]), rfl⟩) dX9_isAsker_25

set_option maxHeartbeats 4000000 in
set_option maxRecDepth 100000 in
theorem c_X9_has (l : Launch) (g : zG) (o : Nat) (a : Nat → Nat) (F : Nat → Int32) (L : Nat → Int64) (A : Nat → Nat → Int32) (X : va_W) (q : Nat) (w : Nat) (hq : q < 8) (hw : w < 5) : Met l yX9_has (Cond.code yX9_has cX9_has 3 (some .int) :: TBL) { frames := 0, cells := 0, slots := 0, locals := 0 } (zPc [.ref o, .int (nI q), .int (nI w)] g (mW g o a F L A ++ X)) (zQi g (fun r ws => r = (A 0 (46 + 5 * q + w)) ∧ ws = mW g o a F L A ++ X)) 0 0 (zA (gz g)) := by
  refine z_start (by decide +kernel) rfl (Nat.le_of_ble_eq_true rfl) ?_
  intro p e s m args below meth c ls hE hr hnm hB hl
  have hl : lv_has ls 3 [(0, .ref o), (1, .int (nI q)), (2, .int (nI w))] := hl
  revert hB
  generalize s.heap = H
  generalize ([] : List Loc) = locs
  intro hB
  refine lv_aload_n hE.x hE.b dX9_has_0 rfl (lv_at hl 0 rfl) ?_
  refine z_get (v := .ref (a 0)) hE hB inX9 0 rfl rfl 0 (by decide) q4_1 (fun _ h9 => h9) rfl dX9_has_1 ?_
  refine lv_bipush (v := (nI 46)) hE.x hE.b dX9_has_4 rfl ?_
  refine lv_iconst (v := nI 5) hE.x hE.b dX9_has_6 rfl ?_
  refine lv_iload_n hE.x hE.b dX9_has_7 rfl (lv_at hl 1 rfl) ?_
  refine z_imulN hE dX9_has_8 ?_
  refine z_iaddN hE dX9_has_9 ?_
  refine lv_iload_n hE.x hE.b dX9_has_10 rfl (lv_at hl 2 rfl) ?_
  refine z_iaddN hE dX9_has_11 ?_
  refine z_iald (k := ((46 + (5 * q)) + w)) (f := (A 0)) hE hB 1 rfl (by omega) (by decide) dX9_has_12 ?_
  exact z_iret (v := ((A 0) ((46 + (5 * q)) + w))) (ws := mW g o a F L A ++ X) hE hB hr (⟨rfl, rfl⟩) dX9_has_13

set_option maxHeartbeats 4000000 in
set_option maxRecDepth 100000 in
theorem c_X9_land (l : Launch) (g : zG) (o : Nat) (a : Nat → Nat) (F : Nat → Int32) (L : Nat → Int64) (A : Nat → Nat → Int32) (X : va_W) (T : Nat) (hT : A 0 0 = nI T) : Met l yX9_land (Cond.code yX9_land cX9_land 2 (some .int) :: TBL) { frames := 1, cells := 0, slots := 0, locals := 21 } (zPc [.ref o] g (mW g o a F L A ++ X)) (zQi g (fun r ws => r = nI T ∧ ws = mW g o a F L (updA A 0 (clr (A 0))) ++ X)) 0 0 (zA (gz g)) := by
  refine z_start (by decide +kernel) rfl (Nat.le_of_ble_eq_true rfl) ?_
  intro p e s m args below meth c ls hE hr hnm hB hl
  have hl : lv_has ls 2 [(0, .ref o)] := hl
  revert hB
  generalize s.heap = H
  generalize ([] : List Loc) = locs
  intro hB
  refine lv_aload_n hE.x hE.b dX9_land_0 rfl (lv_at hl 0 rfl) ?_
  refine z_qi hB (z_cV hE hB (c_X9_towns l g o a F L A X T hT) q4_76 kX9_towns ⟨rfl, rfl⟩ ⟨Nat.le_of_ble_eq_true rfl, Nat.le_of_ble_eq_true rfl⟩ 0 rfl rfl rfl hl.1 rfl (Nat.le_of_ble_eq_true rfl) dX9_land_1 ⟨Nat.le_of_ble_eq_true rfl, Nat.le_of_ble_eq_true rfl⟩) (fun r_1 w_2 H locs hw hB => ?_)
  obtain ⟨hr9, hw9⟩ := hw
  have hr9 := hr9.symm
  subst hr9
  have hw9 := hw9.symm
  subst hw9
  refine lv_istore_n (lv' := [(1, .int (nI T)), (0, .ref o)]) hE.x hE.b dX9_land_4 rfl hl (by decide) rfl (fun ls hl => ?_)
  refine lv_aload_n hE.x hE.b dX9_land_5 rfl (lv_at hl 1 rfl) ?_
  refine z_get (v := .ref (a 0)) hE hB inX9 0 rfl rfl 0 (by decide) q4_1 (fun _ h9 => h9) rfl dX9_land_6 ?_
  refine z_qv hB (z_cS hE hB (c_X9_begin_0 l g o a F L A X) q4_80 kX9_begin ⟨rfl, rfl⟩ ⟨Nat.le_of_ble_eq_true rfl, Nat.le_of_ble_eq_true rfl⟩ rfl hl.1 rfl (Nat.le_of_ble_eq_true rfl) dX9_land_9 ⟨Nat.le_of_ble_eq_true rfl, Nat.le_of_ble_eq_true rfl⟩) (fun w_4 H locs hw hB => ?_)
  have hw9 := hw
  have hw9 := hw9.symm
  subst hw9
  refine lv_iload_n hE.x hE.b dX9_land_12 rfl (lv_at hl 0 rfl) ?_
  exact z_iret (v := (nI T)) (ws := mW g o a F L (updA A 0 (clr (A 0))) ++ X) hE hB hr (⟨rfl, rfl⟩) dX9_land_13

set_option maxHeartbeats 4000000 in
set_option maxRecDepth 100000 in
theorem c_X9_layTown_0 (l : Launch) (g : zG) (o : Nat) (a : Nat → Nat) (F : Nat → Int32) (L : Nat → Int64) (A : Nat → Nat → Int32) (X : va_W) (T : Nat) (rd : Int32) (hT : A 0 0 = nI T) (hT6 : T < 6) : Met l yX9_layTown (Cond.code yX9_layTown cX9_layTown 2 none :: TBL) { frames := 0, cells := 0, slots := 0, locals := 0 } (zPc [.ref (a 0), .int rd] g (mW g o a F L A ++ X)) (zQv g (fun ws => ws = mW g o a F L (updA A 0 (nTown (A 0) T rd)) ++ X)) 0 0 (zA (gz g)) := by
  refine z_start (by decide +kernel) rfl (Nat.le_of_ble_eq_true rfl) ?_
  intro p e s m args below meth c ls hE hr hnm hB hl
  have hl : lv_has ls 2 [(0, .ref (a 0)), (1, .int rd)] := hl
  revert hB
  generalize s.heap = H
  generalize ([] : List Loc) = locs
  intro hB
  refine lv_aload_n hE.x hE.b dX9_layTown_0 rfl (lv_at hl 0 rfl) ?_
  refine lv_iconst (v := nI 4) hE.x hE.b dX9_layTown_1 rfl ?_
  refine lv_aload_n hE.x hE.b dX9_layTown_2 rfl (lv_at hl 0 rfl) ?_
  refine lv_iconst (v := nI 0) hE.x hE.b dX9_layTown_3 rfl ?_
  refine z_iald (k := 0) (f := (A 0)) hE hB 1 rfl (by omega) (by decide) dX9_layTown_4 ?_
  refine z_top (y := (nI T)) hT ?_
  refine z_iaddN hE dX9_layTown_5 ?_
  refine lv_iload_n hE.x hE.b dX9_layTown_6 rfl (lv_at hl 1 rfl) ?_
  refine z_iast (k := (4 + T)) (f := (A 0)) (x := rd) (ws' := mW g o a F L (updA A 0 (upd (A 0) (4 + T) rd)) ++ X) hE hB 1 rfl (by omega) (by decide) rfl dX9_layTown_7 (fun H locs hB => ?_)
  refine lv_aload_n hE.x hE.b dX9_layTown_8 rfl (lv_at hl 0 rfl) ?_
  refine lv_iconst (v := nI 0) hE.x hE.b dX9_layTown_9 rfl ?_
  refine lv_dup2_11 hE.x hE.b dX9_layTown_10 rfl rfl ?_
  refine z_iald (k := 0) (f := (upd (A 0) (4 + T) rd)) hE hB 1 rfl (by omega) (by decide) dX9_layTown_11 ?_
  refine z_top (y := (nI T)) (by simp only [upd]; rw [if_neg (by omega)]; exact hT) ?_
  refine lv_iconst (v := nI 1) hE.x hE.b dX9_layTown_12 rfl ?_
  refine z_iaddN hE dX9_layTown_13 ?_
  refine z_iast (k := 0) (f := (upd (A 0) (4 + T) rd)) (x := (nI (T + 1))) (ws' := mW g o a F L (updA A 0 (upd (upd (A 0) (4 + T) rd) 0 (nI (T + 1)))) ++ X) hE hB 1 rfl (by omega) (by decide) rfl dX9_layTown_14 (fun H locs hB => ?_)
  exact z_vret (ws := mW g o a F L (updA A 0 (upd (upd (A 0) (4 + T) rd) 0 (nI (T + 1)))) ++ X) hE hB hr (rfl) dX9_layTown_15

set_option maxHeartbeats 4000000 in
set_option maxRecDepth 100000 in
theorem c_X9_layTown_6 (l : Launch) (g : zG) (o : Nat) (a : Nat → Nat) (F : Nat → Int32) (L : Nat → Int64) (A : Nat → Nat → Int32) (X : va_W) (T : Nat) (rd : Int32) (hT : A 6 0 = nI T) (hT6 : T < 6) : Met l yX9_layTown (Cond.code yX9_layTown cX9_layTown 2 none :: TBL) { frames := 0, cells := 0, slots := 0, locals := 0 } (zPc [.ref (a 6), .int rd] g (mW g o a F L A ++ X)) (zQv g (fun ws => ws = mW g o a F L (updA A 6 (nTown (A 6) T rd)) ++ X)) 0 0 (zA (gz g)) := by
  refine z_start (by decide +kernel) rfl (Nat.le_of_ble_eq_true rfl) ?_
  intro p e s m args below meth c ls hE hr hnm hB hl
  have hl : lv_has ls 2 [(0, .ref (a 6)), (1, .int rd)] := hl
  revert hB
  generalize s.heap = H
  generalize ([] : List Loc) = locs
  intro hB
  refine lv_aload_n hE.x hE.b dX9_layTown_0 rfl (lv_at hl 0 rfl) ?_
  refine lv_iconst (v := nI 4) hE.x hE.b dX9_layTown_1 rfl ?_
  refine lv_aload_n hE.x hE.b dX9_layTown_2 rfl (lv_at hl 0 rfl) ?_
  refine lv_iconst (v := nI 0) hE.x hE.b dX9_layTown_3 rfl ?_
  refine z_iald (k := 0) (f := (A 6)) hE hB 7 rfl (by omega) (by decide) dX9_layTown_4 ?_
  refine z_top (y := (nI T)) hT ?_
  refine z_iaddN hE dX9_layTown_5 ?_
  refine lv_iload_n hE.x hE.b dX9_layTown_6 rfl (lv_at hl 1 rfl) ?_
  refine z_iast (k := (4 + T)) (f := (A 6)) (x := rd) (ws' := mW g o a F L (updA A 6 (upd (A 6) (4 + T) rd)) ++ X) hE hB 7 rfl (by omega) (by decide) rfl dX9_layTown_7 (fun H locs hB => ?_)
  refine lv_aload_n hE.x hE.b dX9_layTown_8 rfl (lv_at hl 0 rfl) ?_
  refine lv_iconst (v := nI 0) hE.x hE.b dX9_layTown_9 rfl ?_
  refine lv_dup2_11 hE.x hE.b dX9_layTown_10 rfl rfl ?_
  refine z_iald (k := 0) (f := (upd (A 6) (4 + T) rd)) hE hB 7 rfl (by omega) (by decide) dX9_layTown_11 ?_
  refine z_top (y := (nI T)) (by simp only [upd]; rw [if_neg (by omega)]; exact hT) ?_
  refine lv_iconst (v := nI 1) hE.x hE.b dX9_layTown_12 rfl ?_
  refine z_iaddN hE dX9_layTown_13 ?_
  refine z_iast (k := 0) (f := (upd (A 6) (4 + T) rd)) (x := (nI (T + 1))) (ws' := mW g o a F L (updA A 6 (upd (upd (A 6) (4 + T) rd) 0 (nI (T + 1)))) ++ X) hE hB 7 rfl (by omega) (by decide) rfl dX9_layTown_14 (fun H locs hB => ?_)
  exact z_vret (ws := mW g o a F L (updA A 6 (upd (upd (A 6) (4 + T) rd) 0 (nI (T + 1)))) ++ X) hE hB hr (rfl) dX9_layTown_15

set_option maxHeartbeats 4000000 in
set_option maxRecDepth 100000 in
theorem c_X9_town (l : Launch) (g : zG) (o : Nat) (a : Nat → Nat) (F : Nat → Int32) (L : Nat → Int64) (A : Nat → Nat → Int32) (X : va_W) (T : Nat) (C : Nat) (V : Nat) (U : Nat) (rd : Int32) (hn : nOK (A 0) T C V U) : Met l yX9_town (Cond.code yX9_town cX9_town 2 (some .int) :: TBL) { frames := 1, cells := 0, slots := 0, locals := 25 } (zPc [.ref o, .int rd] g (mW g o a F L A ++ X)) (zQi g (fun r ws => r = (townR T rd) ∧ ws = mW g o a F L (townA A T rd) ++ X)) 0 0 (zA (gz g)) := by
  refine z_start (by decide +kernel) rfl (Nat.le_of_ble_eq_true rfl) ?_
  intro p e s m args below meth c ls hE hr hnm hB hl
  have hl : lv_has ls 2 [(0, .ref o), (1, .int rd)] := hl
  revert hB
  generalize s.heap = H
  generalize ([] : List Loc) = locs
  intro hB
  have hT := hn.T
  have hT6 := hn.T6
  have hC := hn.C
  have hC8 := hn.C8
  have hV := hn.V
  have hV8 := hn.V8
  have hU := hn.U
  have hU8 := hn.U8
  refine lv_iload_n hE.x hE.b dX9_town_0 rfl (lv_at hl 1 rfl) ?_
  refine lv_i2l hE.x hE.b dX9_town_1 rfl ?_
  refine lv_lconst (v := lN 0) hE.x hE.b dX9_town_2 rfl ?_
  refine lv_ldc2 (v := lN 3) hE.x hE.b hE.o (hE.t _ q4_87) dX9_town_3 ?_
  refine z_qi hB (z_cS hE hB (c_X9_in l g (Int32.toInt64 rd) (lN 0) (lN 3) (Int32.toInt rd) 0 3 (mW g o a F L A ++ X) (Int32.toInt_toInt64 _) (by decide) (by decide)) q4_88 kX9_in ⟨rfl, rfl⟩ ⟨Nat.le_of_ble_eq_true rfl, Nat.le_of_ble_eq_true rfl⟩ rfl hl.1 rfl (Nat.le_of_ble_eq_true rfl) dX9_town_6 ⟨Nat.le_of_ble_eq_true rfl, Nat.le_of_ble_eq_true rfl⟩) (fun r_1 w_2 H locs hw hB => ?_)
  obtain ⟨hr9, hw9⟩ := hw
  have hr9 := hr9.symm
  subst hr9
  have hw9 := hw9.symm
  subst hw9
  refine z_bt (b := (inZ 0 3 (Int32.toInt rd))) (tgt := 19) hE dX9_town_9 (by decide) (fun c_3 => ?_) (fun c_3 => ?_)
  · refine lv_aload_n hE.x hE.b dX9_town_19 rfl (lv_at hl 0 rfl) ?_
    refine z_qi hB (z_cV hE hB (c_X9_towns l g o a F L A X T hT) q4_76 kX9_towns ⟨rfl, rfl⟩ ⟨Nat.le_of_ble_eq_true rfl, Nat.le_of_ble_eq_true rfl⟩ 0 rfl rfl rfl hl.1 rfl (Nat.le_of_ble_eq_true rfl) dX9_town_20 ⟨Nat.le_of_ble_eq_true rfl, Nat.le_of_ble_eq_true rfl⟩) (fun r_4 w_5 H locs hw hB => ?_)
    obtain ⟨hr9, hw9⟩ := hw
    have hr9 := hr9.symm
    subst hr9
    have hw9 := hw9.symm
    subst hw9
    refine lv_bipush (v := (nI 6)) hE.x hE.b dX9_town_23 rfl ?_
    refine z_ne (tgt := 33) (X := ((T : Nat) : Int)) (Y := (6 : Int)) hE dX9_town_25 (by decide) (nI_toInt (n := T) (by omega)) rfl (fun c_6 => ?_) (fun c_6 => ?_)
    · refine lv_aload_n hE.x hE.b dX9_town_33 rfl (lv_at hl 0 rfl) ?_
      refine z_get (v := .ref (a 0)) hE hB inX9 0 rfl rfl 0 (by decide) q4_1 (fun _ h9 => h9) rfl dX9_town_34 ?_
      refine lv_iload_n hE.x hE.b dX9_town_37 rfl (lv_at hl 1 rfl) ?_
      refine z_qv hB (z_cS hE hB (c_X9_layTown_0 l g o a F L A X T rd hT (by omega)) q4_99 kX9_layTown ⟨rfl, rfl⟩ ⟨Nat.le_of_ble_eq_true rfl, Nat.le_of_ble_eq_true rfl⟩ rfl hl.1 rfl (Nat.le_of_ble_eq_true rfl) dX9_town_38 ⟨Nat.le_of_ble_eq_true rfl, Nat.le_of_ble_eq_true rfl⟩) (fun w_8 H locs hw hB => ?_)
      have hw9 := hw
      have hw9 := hw9.symm
      subst hw9
      refine lv_aload_n hE.x hE.b dX9_town_41 rfl (lv_at hl 0 rfl) ?_
      refine z_qi hB (z_cV hE hB (c_X9_towns l g o a F L (updA A 0 (nTown (A 0) T rd)) X (T + 1) (by rw [updA_self]; simp [nTown, upd])) q4_76 kX9_towns ⟨rfl, rfl⟩ ⟨Nat.le_of_ble_eq_true rfl, Nat.le_of_ble_eq_true rfl⟩ 0 rfl rfl rfl hl.1 rfl (Nat.le_of_ble_eq_true rfl) dX9_town_42 ⟨Nat.le_of_ble_eq_true rfl, Nat.le_of_ble_eq_true rfl⟩) (fun r_9 w_10 H locs hw hB => ?_)
      obtain ⟨hr9, hw9⟩ := hw
      have hr9 := hr9.symm
      subst hr9
      have hw9 := hw9.symm
      subst hw9
      refine lv_iconst (v := nI 1) hE.x hE.b dX9_town_45 rfl ?_
      refine z_isubN hE (by omega) dX9_town_46 ?_
      exact z_iret (v := (nI ((T + 1) - 1))) (ws := mW g o a F L (updA A 0 (nTown (A 0) T rd)) ++ X) hE hB hr (⟨by unfold townR pIn; rw [c_3, if_pos rfl, if_neg (by omega), Nat.add_sub_cancel], by unfold townA pIn; rw [c_3, if_pos rfl, if_neg (by omega)]⟩) dX9_town_47
    · refine lv_aload_n hE.x hE.b dX9_town_28 rfl (lv_at hl 0 rfl) ?_
      refine z_qi hB (z_cV hE hB (c_X9_full l g o a F L A X) q4_95 kX9_full ⟨rfl, rfl⟩ ⟨Nat.le_of_ble_eq_true rfl, Nat.le_of_ble_eq_true rfl⟩ 0 rfl rfl rfl hl.1 rfl (Nat.le_of_ble_eq_true rfl) dX9_town_29 ⟨Nat.le_of_ble_eq_true rfl, Nat.le_of_ble_eq_true rfl⟩) (fun r_11 w_12 H locs hw hB => ?_)
      obtain ⟨hr9, hw9⟩ := hw
      have hr9 := hr9.symm
      subst hr9
      have hw9 := hw9.symm
      subst hw9
      exact z_iret (v := (-4)) (ws := mW g o a F L (bump 2 A) ++ X) hE hB hr (⟨by unfold townR pIn; rw [c_3, if_pos rfl, if_pos (by omega)], by unfold townA pIn; rw [c_3, if_pos rfl, if_pos (by omega)]⟩) dX9_town_32
  · refine lv_aload_n hE.x hE.b dX9_town_12 rfl (lv_at hl 0 rfl) ?_
    refine lv_bipush (v := (-2)) hE.x hE.b dX9_town_13 rfl ?_
    refine z_qi hB (z_cV hE hB (c_X9_bad l g o a F L A X (-2)) q4_91 kX9_bad ⟨rfl, rfl⟩ ⟨Nat.le_of_ble_eq_true rfl, Nat.le_of_ble_eq_true rfl⟩ 0 rfl rfl rfl hl.1 rfl (Nat.le_of_ble_eq_true rfl) dX9_town_15 ⟨Nat.le_of_ble_eq_true rfl, Nat.le_of_ble_eq_true rfl⟩) (fun r_13 w_14 H locs hw hB => ?_)
    obtain ⟨hr9, hw9⟩ := hw
    have hr9 := hr9.symm
    subst hr9
    have hw9 := hw9.symm
    subst hw9
    exact z_iret (v := (-2)) (ws := mW g o a F L (bump 0 A) ++ X) hE hB hr (⟨by unfold townR pIn; rw [c_3]; rfl, by unfold townA pIn; rw [c_3]; rfl⟩) dX9_town_18

set_option maxHeartbeats 4000000 in
set_option maxRecDepth 100000 in
theorem c_X9_layRoad_0 (l : Launch) (g : zG) (o : Nat) (a : Nat → Nat) (F : Nat → Int32) (L : Nat → Int64) (A : Nat → Nat → Int32) (X : va_W) (i : Nat) (k : Nat) (d : Int32) (hi : i < 6) (hk : k < 6) : Met l yX9_layRoad (Cond.code yX9_layRoad cX9_layRoad 4 none :: TBL) { frames := 0, cells := 0, slots := 0, locals := 0 } (zPc [.ref (a 0), .int (nI i), .int (nI k), .int d] g (mW g o a F L A ++ X)) (zQv g (fun ws => ws = mW g o a F L (updA A 0 (nRoad (A 0) i k d)) ++ X)) 0 0 (zA (gz g)) := by
  refine z_start (by decide +kernel) rfl (Nat.le_of_ble_eq_true rfl) ?_
  intro p e s m args below meth c ls hE hr hnm hB hl
  have hl : lv_has ls 4 [(0, .ref (a 0)), (1, .int (nI i)), (2, .int (nI k)), (3, .int d)] := hl
  revert hB
  generalize s.heap = H
  generalize ([] : List Loc) = locs
  intro hB
  refine lv_aload_n hE.x hE.b dX9_layRoad_0 rfl (lv_at hl 0 rfl) ?_
  refine lv_bipush (v := (nI 10)) hE.x hE.b dX9_layRoad_1 rfl ?_
  refine lv_bipush (v := (nI 6)) hE.x hE.b dX9_layRoad_3 rfl ?_
  refine lv_iload_n hE.x hE.b dX9_layRoad_5 rfl (lv_at hl 1 rfl) ?_
  refine z_imulN hE dX9_layRoad_6 ?_
  refine z_iaddN hE dX9_layRoad_7 ?_
  refine lv_iload_n hE.x hE.b dX9_layRoad_8 rfl (lv_at hl 2 rfl) ?_
  refine z_iaddN hE dX9_layRoad_9 ?_
  refine lv_iload_n hE.x hE.b dX9_layRoad_10 rfl (lv_at hl 3 rfl) ?_
  refine z_iast (k := ((10 + (6 * i)) + k)) (f := (A 0)) (x := d) (ws' := mW g o a F L (updA A 0 (upd (A 0) ((10 + (6 * i)) + k) d)) ++ X) hE hB 1 rfl (by omega) (by decide) rfl dX9_layRoad_11 (fun H locs hB => ?_)
  refine lv_aload_n hE.x hE.b dX9_layRoad_12 rfl (lv_at hl 0 rfl) ?_
  refine lv_bipush (v := (nI 10)) hE.x hE.b dX9_layRoad_13 rfl ?_
  refine lv_bipush (v := (nI 6)) hE.x hE.b dX9_layRoad_15 rfl ?_
  refine lv_iload_n hE.x hE.b dX9_layRoad_17 rfl (lv_at hl 2 rfl) ?_
  refine z_imulN hE dX9_layRoad_18 ?_
  refine z_iaddN hE dX9_layRoad_19 ?_
  refine lv_iload_n hE.x hE.b dX9_layRoad_20 rfl (lv_at hl 1 rfl) ?_
  refine z_iaddN hE dX9_layRoad_21 ?_
  refine lv_iload_n hE.x hE.b dX9_layRoad_22 rfl (lv_at hl 3 rfl) ?_
  refine z_iast (k := ((10 + (6 * k)) + i)) (f := (upd (A 0) ((10 + (6 * i)) + k) d)) (x := d) (ws' := mW g o a F L (updA A 0 (upd (upd (A 0) ((10 + (6 * i)) + k) d) ((10 + (6 * k)) + i) d)) ++ X) hE hB 1 rfl (by omega) (by decide) rfl dX9_layRoad_23 (fun H locs hB => ?_)
  exact z_vret (ws := mW g o a F L (updA A 0 (upd (upd (A 0) ((10 + (6 * i)) + k) d) ((10 + (6 * k)) + i) d)) ++ X) hE hB hr (rfl) dX9_layRoad_24

set_option maxHeartbeats 4000000 in
set_option maxRecDepth 100000 in
theorem c_X9_layRoad_6 (l : Launch) (g : zG) (o : Nat) (a : Nat → Nat) (F : Nat → Int32) (L : Nat → Int64) (A : Nat → Nat → Int32) (X : va_W) (i : Nat) (k : Nat) (d : Int32) (hi : i < 6) (hk : k < 6) : Met l yX9_layRoad (Cond.code yX9_layRoad cX9_layRoad 4 none :: TBL) { frames := 0, cells := 0, slots := 0, locals := 0 } (zPc [.ref (a 6), .int (nI i), .int (nI k), .int d] g (mW g o a F L A ++ X)) (zQv g (fun ws => ws = mW g o a F L (updA A 6 (nRoad (A 6) i k d)) ++ X)) 0 0 (zA (gz g)) := by
  refine z_start (by decide +kernel) rfl (Nat.le_of_ble_eq_true rfl) ?_
  intro p e s m args below meth c ls hE hr hnm hB hl
  have hl : lv_has ls 4 [(0, .ref (a 6)), (1, .int (nI i)), (2, .int (nI k)), (3, .int d)] := hl
  revert hB
  generalize s.heap = H
  generalize ([] : List Loc) = locs
  intro hB
  refine lv_aload_n hE.x hE.b dX9_layRoad_0 rfl (lv_at hl 0 rfl) ?_
  refine lv_bipush (v := (nI 10)) hE.x hE.b dX9_layRoad_1 rfl ?_
  refine lv_bipush (v := (nI 6)) hE.x hE.b dX9_layRoad_3 rfl ?_
  refine lv_iload_n hE.x hE.b dX9_layRoad_5 rfl (lv_at hl 1 rfl) ?_
  refine z_imulN hE dX9_layRoad_6 ?_
  refine z_iaddN hE dX9_layRoad_7 ?_
  refine lv_iload_n hE.x hE.b dX9_layRoad_8 rfl (lv_at hl 2 rfl) ?_
  refine z_iaddN hE dX9_layRoad_9 ?_
  refine lv_iload_n hE.x hE.b dX9_layRoad_10 rfl (lv_at hl 3 rfl) ?_
  refine z_iast (k := ((10 + (6 * i)) + k)) (f := (A 6)) (x := d) (ws' := mW g o a F L (updA A 6 (upd (A 6) ((10 + (6 * i)) + k) d)) ++ X) hE hB 7 rfl (by omega) (by decide) rfl dX9_layRoad_11 (fun H locs hB => ?_)
  refine lv_aload_n hE.x hE.b dX9_layRoad_12 rfl (lv_at hl 0 rfl) ?_
  refine lv_bipush (v := (nI 10)) hE.x hE.b dX9_layRoad_13 rfl ?_
  refine lv_bipush (v := (nI 6)) hE.x hE.b dX9_layRoad_15 rfl ?_
  refine lv_iload_n hE.x hE.b dX9_layRoad_17 rfl (lv_at hl 2 rfl) ?_
  refine z_imulN hE dX9_layRoad_18 ?_
  refine z_iaddN hE dX9_layRoad_19 ?_
  refine lv_iload_n hE.x hE.b dX9_layRoad_20 rfl (lv_at hl 1 rfl) ?_
  refine z_iaddN hE dX9_layRoad_21 ?_
  refine lv_iload_n hE.x hE.b dX9_layRoad_22 rfl (lv_at hl 3 rfl) ?_
  refine z_iast (k := ((10 + (6 * k)) + i)) (f := (upd (A 6) ((10 + (6 * i)) + k) d)) (x := d) (ws' := mW g o a F L (updA A 6 (upd (upd (A 6) ((10 + (6 * i)) + k) d) ((10 + (6 * k)) + i) d)) ++ X) hE hB 7 rfl (by omega) (by decide) rfl dX9_layRoad_23 (fun H locs hB => ?_)
  exact z_vret (ws := mW g o a F L (updA A 6 (upd (upd (A 6) ((10 + (6 * i)) + k) d) ((10 + (6 * k)) + i) d)) ++ X) hE hB hr (rfl) dX9_layRoad_24

set_option maxHeartbeats 4000000 in
set_option maxRecDepth 100000 in
theorem c_X9_road (l : Launch) (g : zG) (o : Nat) (a : Nat → Nat) (F : Nat → Int32) (L : Nat → Int64) (A : Nat → Nat → Int32) (X : va_W) (T : Nat) (C : Nat) (V : Nat) (U : Nat) (x : Int32) (y : Int32) (d : Int32) (hn : nOK (A 0) T C V U) : Met l yX9_road (Cond.code yX9_road cX9_road 5 (some .int) :: TBL) { frames := 2, cells := 0, slots := 0, locals := 46 } (zPc [.ref o, .int x, .int y, .int d] g (mW g o a F L A ++ X)) (zQi g (fun r ws => r = (roadR (A 0) T x y d) ∧ ws = mW g o a F L (roadA A T x y d) ++ X)) 0 0 (zA (gz g)) := by
  refine z_start (by decide +kernel) rfl (Nat.le_of_ble_eq_true rfl) ?_
  intro p e s m args below meth c ls hE hr hnm hB hl
  have hl : lv_has ls 5 [(0, .ref o), (1, .int x), (2, .int y), (3, .int d)] := hl
  revert hB
  generalize s.heap = H
  generalize ([] : List Loc) = locs
  intro hB
  have hT := hn.T
  have hT6 := hn.T6
  have hC := hn.C
  have hC8 := hn.C8
  have hV := hn.V
  have hV8 := hn.V8
  have hU := hn.U
  have hU8 := hn.U8
  refine lv_aload_n hE.x hE.b dX9_road_0 rfl (lv_at hl 0 rfl) ?_
  refine lv_iload_n hE.x hE.b dX9_road_1 rfl (lv_at hl 1 rfl) ?_
  refine z_qi hB (z_cV hE hB (c_X9_isTown l g o a F L A X T x hT (by omega)) q4_106 kX9_isTown ⟨rfl, rfl⟩ ⟨Nat.le_of_ble_eq_true rfl, Nat.le_of_ble_eq_true rfl⟩ 0 rfl rfl rfl hl.1 rfl (Nat.le_of_ble_eq_true rfl) dX9_road_2 ⟨Nat.le_of_ble_eq_true rfl, Nat.le_of_ble_eq_true rfl⟩) (fun r_1 w_2 H locs hw hB => ?_)
  obtain ⟨hr9, hw9⟩ := hw
  have hr9 := hr9.symm
  subst hr9
  have hw9 := hw9.symm
  subst hw9
  refine z_bf (b := (pTown T x)) (tgt := 33) hE dX9_road_5 (by decide) (fun c_3 => ?_) (fun c_3 => ?_)
  · refine lv_aload_n hE.x hE.b dX9_road_33 rfl (lv_at hl 0 rfl) ?_
    refine lv_bipush (v := (-2)) hE.x hE.b dX9_road_34 rfl ?_
    refine z_qi hB (z_cV hE hB (c_X9_bad l g o a F L A X (-2)) q4_91 kX9_bad ⟨rfl, rfl⟩ ⟨Nat.le_of_ble_eq_true rfl, Nat.le_of_ble_eq_true rfl⟩ 0 rfl rfl rfl hl.1 rfl (Nat.le_of_ble_eq_true rfl) dX9_road_36 ⟨Nat.le_of_ble_eq_true rfl, Nat.le_of_ble_eq_true rfl⟩) (fun r_4 w_5 H locs hw hB => ?_)
    obtain ⟨hr9, hw9⟩ := hw
    have hr9 := hr9.symm
    subst hr9
    have hw9 := hw9.symm
    subst hw9
    exact z_iret (v := (-2)) (ws := mW g o a F L (bump 0 A) ++ X) hE hB hr (⟨by unfold roadR roadOK; simp [c_3], by unfold roadA roadOK; simp [c_3]⟩) dX9_road_39
  · refine lv_aload_n hE.x hE.b dX9_road_8 rfl (lv_at hl 0 rfl) ?_
    refine lv_iload_n hE.x hE.b dX9_road_9 rfl (lv_at hl 2 rfl) ?_
    refine z_qi hB (z_cV hE hB (c_X9_isTown l g o a F L A X T y hT (by omega)) q4_106 kX9_isTown ⟨rfl, rfl⟩ ⟨Nat.le_of_ble_eq_true rfl, Nat.le_of_ble_eq_true rfl⟩ 0 rfl rfl rfl hl.1 rfl (Nat.le_of_ble_eq_true rfl) dX9_road_10 ⟨Nat.le_of_ble_eq_true rfl, Nat.le_of_ble_eq_true rfl⟩) (fun r_6 w_7 H locs hw hB => ?_)
    obtain ⟨hr9, hw9⟩ := hw
    have hr9 := hr9.symm
    subst hr9
    have hw9 := hw9.symm
    subst hw9
    refine z_bf (b := (pTown T y)) (tgt := 33) hE dX9_road_13 (by decide) (fun c_8 => ?_) (fun c_8 => ?_)
    · refine lv_aload_n hE.x hE.b dX9_road_33 rfl (lv_at hl 0 rfl) ?_
      refine lv_bipush (v := (-2)) hE.x hE.b dX9_road_34 rfl ?_
      refine z_qi hB (z_cV hE hB (c_X9_bad l g o a F L A X (-2)) q4_91 kX9_bad ⟨rfl, rfl⟩ ⟨Nat.le_of_ble_eq_true rfl, Nat.le_of_ble_eq_true rfl⟩ 0 rfl rfl rfl hl.1 rfl (Nat.le_of_ble_eq_true rfl) dX9_road_36 ⟨Nat.le_of_ble_eq_true rfl, Nat.le_of_ble_eq_true rfl⟩) (fun r_9 w_10 H locs hw hB => ?_)
      obtain ⟨hr9, hw9⟩ := hw
      have hr9 := hr9.symm
      subst hr9
      have hw9 := hw9.symm
      subst hw9
      exact z_iret (v := (-2)) (ws := mW g o a F L (bump 0 A) ++ X) hE hB hr (⟨by unfold roadR roadOK; simp [c_3, c_8], by unfold roadA roadOK; simp [c_3, c_8]⟩) dX9_road_39
    · refine lv_iload_n hE.x hE.b dX9_road_16 rfl (lv_at hl 1 rfl) ?_
      refine lv_iload_n hE.x hE.b dX9_road_17 rfl (lv_at hl 2 rfl) ?_
      refine lv_icmp_eq (tgt := 33) hE.x hE.b dX9_road_18 (by decide) (fun c_11 => ?_) (fun c_11 => ?_)
      · refine lv_aload_n hE.x hE.b dX9_road_33 rfl (lv_at hl 0 rfl) ?_
        refine lv_bipush (v := (-2)) hE.x hE.b dX9_road_34 rfl ?_
        refine z_qi hB (z_cV hE hB (c_X9_bad l g o a F L A X (-2)) q4_91 kX9_bad ⟨rfl, rfl⟩ ⟨Nat.le_of_ble_eq_true rfl, Nat.le_of_ble_eq_true rfl⟩ 0 rfl rfl rfl hl.1 rfl (Nat.le_of_ble_eq_true rfl) dX9_road_36 ⟨Nat.le_of_ble_eq_true rfl, Nat.le_of_ble_eq_true rfl⟩) (fun r_12 w_13 H locs hw hB => ?_)
        obtain ⟨hr9, hw9⟩ := hw
        have hr9 := hr9.symm
        subst hr9
        have hw9 := hw9.symm
        subst hw9
        exact z_iret (v := (-2)) (ws := mW g o a F L (bump 0 A) ++ X) hE hB hr (⟨by unfold roadR roadOK; simp [c_3, c_8, c_11], by unfold roadA roadOK; simp [c_3, c_8, c_11]⟩) dX9_road_39
      · refine lv_iload_n hE.x hE.b dX9_road_21 rfl (lv_at hl 3 rfl) ?_
        refine lv_i2l hE.x hE.b dX9_road_22 rfl ?_
        refine lv_lconst (v := lN 1) hE.x hE.b dX9_road_23 rfl ?_
        refine lv_ldc2 (v := lN 9) hE.x hE.b hE.o (hE.t _ q4_110) dX9_road_24 ?_
        refine z_qi hB (z_cS hE hB (c_X9_in l g (Int32.toInt64 d) (lN 1) (lN 9) (Int32.toInt d) 1 9 (mW g o a F L A ++ X) (Int32.toInt_toInt64 _) (by decide) (by decide)) q4_88 kX9_in ⟨rfl, rfl⟩ ⟨Nat.le_of_ble_eq_true rfl, Nat.le_of_ble_eq_true rfl⟩ rfl hl.1 rfl (Nat.le_of_ble_eq_true rfl) dX9_road_27 ⟨Nat.le_of_ble_eq_true rfl, Nat.le_of_ble_eq_true rfl⟩) (fun r_14 w_15 H locs hw hB => ?_)
        obtain ⟨hr9, hw9⟩ := hw
        have hr9 := hr9.symm
        subst hr9
        have hw9 := hw9.symm
        subst hw9
        refine z_bt (b := (inZ 1 9 (Int32.toInt d))) (tgt := 40) hE dX9_road_30 (by decide) (fun c_16 => ?_) (fun c_16 => ?_)
        · obtain ⟨i, hi, rfl⟩ := pTown_nI c_3 (by omega)
          obtain ⟨k, hk, rfl⟩ := pTown_nI c_8 (by omega)
          refine lv_aload_n hE.x hE.b dX9_road_40 rfl (lv_at hl 0 rfl) ?_
          refine z_get (v := .ref (a 0)) hE hB inX9 0 rfl rfl 0 (by decide) q4_1 (fun _ h9 => h9) rfl dX9_road_41 ?_
          refine lv_bipush (v := (nI 10)) hE.x hE.b dX9_road_44 rfl ?_
          refine lv_bipush (v := (nI 6)) hE.x hE.b dX9_road_46 rfl ?_
          refine lv_iload_n hE.x hE.b dX9_road_48 rfl (lv_at hl 1 rfl) ?_
          refine z_imulN hE dX9_road_49 ?_
          refine z_iaddN hE dX9_road_50 ?_
          refine lv_iload_n hE.x hE.b dX9_road_51 rfl (lv_at hl 2 rfl) ?_
          refine z_iaddN hE dX9_road_52 ?_
          refine z_iald (k := ((10 + (6 * i)) + k)) (f := (A 0)) hE hB 1 rfl (by omega) (by decide) dX9_road_53 ?_
          refine lv_istore (lv' := [(4, .int ((A 0) ((10 + (6 * i)) + k))), (0, .ref o), (1, .int (nI i)), (2, .int (nI k)), (3, .int d)]) hE.x hE.b dX9_road_54 hl (by decide) rfl (fun ls hl => ?_)
          refine lv_aload_n hE.x hE.b dX9_road_56 rfl (lv_at hl 1 rfl) ?_
          refine z_get (v := .ref (a 0)) hE hB inX9 0 rfl rfl 0 (by decide) q4_1 (fun _ h9 => h9) rfl dX9_road_57 ?_
          refine lv_iload_n hE.x hE.b dX9_road_60 rfl (lv_at hl 2 rfl) ?_
          refine lv_iload_n hE.x hE.b dX9_road_61 rfl (lv_at hl 3 rfl) ?_
          refine lv_iload_n hE.x hE.b dX9_road_62 rfl (lv_at hl 4 rfl) ?_
          refine z_qv hB (z_cS hE hB (c_X9_layRoad_0 l g o a F L A X i k d (by omega) (by omega)) q4_111 kX9_layRoad ⟨rfl, rfl⟩ ⟨Nat.le_of_ble_eq_true rfl, Nat.le_of_ble_eq_true rfl⟩ rfl hl.1 rfl (Nat.le_of_ble_eq_true rfl) dX9_road_63 ⟨Nat.le_of_ble_eq_true rfl, Nat.le_of_ble_eq_true rfl⟩) (fun w_18 H locs hw hB => ?_)
          have hw9 := hw
          have hw9 := hw9.symm
          subst hw9
          refine lv_iload hE.x hE.b dX9_road_66 (lv_at hl 0 rfl) ?_
          exact z_iret (v := ((A 0) ((10 + (6 * i)) + k))) (ws := mW g o a F L (updA A 0 (nRoad (A 0) i k d)) ++ X) hE hB hr (⟨by unfold roadR roadOK; simp [c_3, c_8, c_11, c_16, rcl (show i < 2 ^ 31 by omega), rcl (show k < 2 ^ 31 by omega)], by unfold roadA roadOK; simp [c_3, c_8, c_11, c_16, rcl (show i < 2 ^ 31 by omega), rcl (show k < 2 ^ 31 by omega)]⟩) dX9_road_68
        · refine lv_aload_n hE.x hE.b dX9_road_33 rfl (lv_at hl 0 rfl) ?_
          refine lv_bipush (v := (-2)) hE.x hE.b dX9_road_34 rfl ?_
          refine z_qi hB (z_cV hE hB (c_X9_bad l g o a F L A X (-2)) q4_91 kX9_bad ⟨rfl, rfl⟩ ⟨Nat.le_of_ble_eq_true rfl, Nat.le_of_ble_eq_true rfl⟩ 0 rfl rfl rfl hl.1 rfl (Nat.le_of_ble_eq_true rfl) dX9_road_36 ⟨Nat.le_of_ble_eq_true rfl, Nat.le_of_ble_eq_true rfl⟩) (fun r_19 w_20 H locs hw hB => ?_)
          obtain ⟨hr9, hw9⟩ := hw
          have hr9 := hr9.symm
          subst hr9
          have hw9 := hw9.symm
          subst hw9
          exact z_iret (v := (-2)) (ws := mW g o a F L (bump 0 A) ++ X) hE hB hr (⟨by unfold roadR roadOK; simp [c_3, c_8, c_11, c_16], by unfold roadA roadOK; simp [c_3, c_8, c_11, c_16]⟩) dX9_road_39

set_option maxHeartbeats 4000000 in
set_option maxRecDepth 100000 in
theorem c_X9_layClause_0 (l : Launch) (g : zG) (o : Nat) (a : Nat → Nat) (F : Nat → Int32) (L : Nat → Int64) (A : Nat → Nat → Int32) (X : va_W) (C : Nat) (k : Int32) (ac : Int32) (fr : Int32) (ti : Int32) (w : Int32) (hC : A 0 1 = nI C) (hC8 : C < 8) : Met l yX9_layClause (Cond.code yX9_layClause cX9_layClause 7 none :: TBL) { frames := 0, cells := 0, slots := 0, locals := 0 } (zPc [.ref (a 0), .int k, .int ac, .int fr, .int ti, .int w] g (mW g o a F L A ++ X)) (zQv g (fun ws => ws = mW g o a F L (updA A 0 (nCl (A 0) C k ac fr ti w)) ++ X)) 0 0 (zA (gz g)) := by
  refine z_start (by decide +kernel) rfl (Nat.le_of_ble_eq_true rfl) ?_
  intro p e s m args below meth c ls hE hr hnm hB hl
  have hl : lv_has ls 7 [(0, .ref (a 0)), (1, .int k), (2, .int ac), (3, .int fr), (4, .int ti), (5, .int w)] := hl
  revert hB
  generalize s.heap = H
  generalize ([] : List Loc) = locs
  intro hB
  refine lv_bipush (v := (nI 46)) hE.x hE.b dX9_layClause_0 rfl ?_
  refine lv_iconst (v := nI 5) hE.x hE.b dX9_layClause_2 rfl ?_
  refine lv_aload_n hE.x hE.b dX9_layClause_3 rfl (lv_at hl 0 rfl) ?_
  refine lv_iconst (v := nI 1) hE.x hE.b dX9_layClause_4 rfl ?_
  refine z_iald (k := 1) (f := (A 0)) hE hB 1 rfl (by omega) (by decide) dX9_layClause_5 ?_
  refine z_top (y := (nI C)) hC ?_
  refine z_imulN hE dX9_layClause_6 ?_
  refine z_iaddN hE dX9_layClause_7 ?_
  refine lv_istore (lv' := [(6, .int (nI (46 + (5 * C)))), (0, .ref (a 0)), (1, .int k), (2, .int ac), (3, .int fr), (4, .int ti), (5, .int w)]) hE.x hE.b dX9_layClause_8 hl (by decide) rfl (fun ls hl => ?_)
  refine lv_aload_n hE.x hE.b dX9_layClause_10 rfl (lv_at hl 1 rfl) ?_
  refine lv_iload hE.x hE.b dX9_layClause_11 (lv_at hl 0 rfl) ?_
  refine lv_iconst (v := nI 0) hE.x hE.b dX9_layClause_13 rfl ?_
  refine z_iaddN hE dX9_layClause_14 ?_
  refine lv_iload_n hE.x hE.b dX9_layClause_15 rfl (lv_at hl 2 rfl) ?_
  refine z_iast (k := ((46 + (5 * C)) + 0)) (f := (A 0)) (x := k) (ws' := mW g o a F L (updA A 0 (upd (A 0) ((46 + (5 * C)) + 0) k)) ++ X) hE hB 1 rfl (by omega) (by decide) rfl dX9_layClause_16 (fun H locs hB => ?_)
  refine lv_aload_n hE.x hE.b dX9_layClause_17 rfl (lv_at hl 1 rfl) ?_
  refine lv_iload hE.x hE.b dX9_layClause_18 (lv_at hl 0 rfl) ?_
  refine lv_iconst (v := nI 1) hE.x hE.b dX9_layClause_20 rfl ?_
  refine z_iaddN hE dX9_layClause_21 ?_
  refine lv_iload_n hE.x hE.b dX9_layClause_22 rfl (lv_at hl 3 rfl) ?_
  refine z_iast (k := ((46 + (5 * C)) + 1)) (f := (upd (A 0) ((46 + (5 * C)) + 0) k)) (x := ac) (ws' := mW g o a F L (updA A 0 (upd (upd (A 0) ((46 + (5 * C)) + 0) k) ((46 + (5 * C)) + 1) ac)) ++ X) hE hB 1 rfl (by omega) (by decide) rfl dX9_layClause_23 (fun H locs hB => ?_)
  refine lv_aload_n hE.x hE.b dX9_layClause_24 rfl (lv_at hl 1 rfl) ?_
  refine lv_iload hE.x hE.b dX9_layClause_25 (lv_at hl 0 rfl) ?_
  refine lv_iconst (v := nI 2) hE.x hE.b dX9_layClause_27 rfl ?_
  refine z_iaddN hE dX9_layClause_28 ?_
  refine lv_iload_n hE.x hE.b dX9_layClause_29 rfl (lv_at hl 4 rfl) ?_
  refine z_iast (k := ((46 + (5 * C)) + 2)) (f := (upd (upd (A 0) ((46 + (5 * C)) + 0) k) ((46 + (5 * C)) + 1) ac)) (x := fr) (ws' := mW g o a F L (updA A 0 (upd (upd (upd (A 0) ((46 + (5 * C)) + 0) k) ((46 + (5 * C)) + 1) ac) ((46 + (5 * C)) + 2) fr)) ++ X) hE hB 1 rfl (by omega) (by decide) rfl dX9_layClause_30 (fun H locs hB => ?_)
  refine lv_aload_n hE.x hE.b dX9_layClause_31 rfl (lv_at hl 1 rfl) ?_
  refine lv_iload hE.x hE.b dX9_layClause_32 (lv_at hl 0 rfl) ?_
  refine lv_iconst (v := nI 3) hE.x hE.b dX9_layClause_34 rfl ?_
  refine z_iaddN hE dX9_layClause_35 ?_
  refine lv_iload hE.x hE.b dX9_layClause_36 (lv_at hl 5 rfl) ?_
  refine z_iast (k := ((46 + (5 * C)) + 3)) (f := (upd (upd (upd (A 0) ((46 + (5 * C)) + 0) k) ((46 + (5 * C)) + 1) ac) ((46 + (5 * C)) + 2) fr)) (x := ti) (ws' := mW g o a F L (updA A 0 (upd (upd (upd (upd (A 0) ((46 + (5 * C)) + 0) k) ((46 + (5 * C)) + 1) ac) ((46 + (5 * C)) + 2) fr) ((46 + (5 * C)) + 3) ti)) ++ X) hE hB 1 rfl (by omega) (by decide) rfl dX9_layClause_38 (fun H locs hB => ?_)
  refine lv_aload_n hE.x hE.b dX9_layClause_39 rfl (lv_at hl 1 rfl) ?_
  refine lv_iload hE.x hE.b dX9_layClause_40 (lv_at hl 0 rfl) ?_
  refine lv_iconst (v := nI 4) hE.x hE.b dX9_layClause_42 rfl ?_
  refine z_iaddN hE dX9_layClause_43 ?_
  refine lv_iload hE.x hE.b dX9_layClause_44 (lv_at hl 6 rfl) ?_
  refine z_iast (k := ((46 + (5 * C)) + 4)) (f := (upd (upd (upd (upd (A 0) ((46 + (5 * C)) + 0) k) ((46 + (5 * C)) + 1) ac) ((46 + (5 * C)) + 2) fr) ((46 + (5 * C)) + 3) ti)) (x := w) (ws' := mW g o a F L (updA A 0 (upd (upd (upd (upd (upd (A 0) ((46 + (5 * C)) + 0) k) ((46 + (5 * C)) + 1) ac) ((46 + (5 * C)) + 2) fr) ((46 + (5 * C)) + 3) ti) ((46 + (5 * C)) + 4) w)) ++ X) hE hB 1 rfl (by omega) (by decide) rfl dX9_layClause_46 (fun H locs hB => ?_)
  refine lv_aload_n hE.x hE.b dX9_layClause_47 rfl (lv_at hl 1 rfl) ?_
  refine lv_iconst (v := nI 1) hE.x hE.b dX9_layClause_48 rfl ?_
  refine lv_dup2_11 hE.x hE.b dX9_layClause_49 rfl rfl ?_
  refine z_iald (k := 1) (f := (upd (upd (upd (upd (upd (A 0) ((46 + (5 * C)) + 0) k) ((46 + (5 * C)) + 1) ac) ((46 + (5 * C)) + 2) fr) ((46 + (5 * C)) + 3) ti) ((46 + (5 * C)) + 4) w)) hE hB 1 rfl (by omega) (by decide) dX9_layClause_50 ?_
  refine z_top (y := (nI C)) (by simp only [upd]; rw [if_neg (by omega), if_neg (by omega), if_neg (by omega), if_neg (by omega), if_neg (by omega)]; exact hC) ?_
  refine lv_iconst (v := nI 1) hE.x hE.b dX9_layClause_51 rfl ?_
  refine z_iaddN hE dX9_layClause_52 ?_
  refine z_iast (k := 1) (f := (upd (upd (upd (upd (upd (A 0) ((46 + (5 * C)) + 0) k) ((46 + (5 * C)) + 1) ac) ((46 + (5 * C)) + 2) fr) ((46 + (5 * C)) + 3) ti) ((46 + (5 * C)) + 4) w)) (x := (nI (C + 1))) (ws' := mW g o a F L (updA A 0 (upd (upd (upd (upd (upd (upd (A 0) ((46 + (5 * C)) + 0) k) ((46 + (5 * C)) + 1) ac) ((46 + (5 * C)) + 2) fr) ((46 + (5 * C)) + 3) ti) ((46 + (5 * C)) + 4) w) 1 (nI (C + 1)))) ++ X) hE hB 1 rfl (by omega) (by decide) rfl dX9_layClause_53 (fun H locs hB => ?_)
  exact z_vret (ws := mW g o a F L (updA A 0 (upd (upd (upd (upd (upd (upd (A 0) ((46 + (5 * C)) + 0) k) ((46 + (5 * C)) + 1) ac) ((46 + (5 * C)) + 2) fr) ((46 + (5 * C)) + 3) ti) ((46 + (5 * C)) + 4) w) 1 (nI (C + 1)))) ++ X) hE hB hr (rfl) dX9_layClause_54

set_option maxHeartbeats 4000000 in
set_option maxRecDepth 100000 in
theorem c_X9_layClause_6 (l : Launch) (g : zG) (o : Nat) (a : Nat → Nat) (F : Nat → Int32) (L : Nat → Int64) (A : Nat → Nat → Int32) (X : va_W) (C : Nat) (k : Int32) (ac : Int32) (fr : Int32) (ti : Int32) (w : Int32) (hC : A 6 1 = nI C) (hC8 : C < 8) : Met l yX9_layClause (Cond.code yX9_layClause cX9_layClause 7 none :: TBL) { frames := 0, cells := 0, slots := 0, locals := 0 } (zPc [.ref (a 6), .int k, .int ac, .int fr, .int ti, .int w] g (mW g o a F L A ++ X)) (zQv g (fun ws => ws = mW g o a F L (updA A 6 (nCl (A 6) C k ac fr ti w)) ++ X)) 0 0 (zA (gz g)) := by
  refine z_start (by decide +kernel) rfl (Nat.le_of_ble_eq_true rfl) ?_
  intro p e s m args below meth c ls hE hr hnm hB hl
  have hl : lv_has ls 7 [(0, .ref (a 6)), (1, .int k), (2, .int ac), (3, .int fr), (4, .int ti), (5, .int w)] := hl
  revert hB
  generalize s.heap = H
  generalize ([] : List Loc) = locs
  intro hB
  refine lv_bipush (v := (nI 46)) hE.x hE.b dX9_layClause_0 rfl ?_
  refine lv_iconst (v := nI 5) hE.x hE.b dX9_layClause_2 rfl ?_
  refine lv_aload_n hE.x hE.b dX9_layClause_3 rfl (lv_at hl 0 rfl) ?_
  refine lv_iconst (v := nI 1) hE.x hE.b dX9_layClause_4 rfl ?_
  refine z_iald (k := 1) (f := (A 6)) hE hB 7 rfl (by omega) (by decide) dX9_layClause_5 ?_
  refine z_top (y := (nI C)) hC ?_
  refine z_imulN hE dX9_layClause_6 ?_
  refine z_iaddN hE dX9_layClause_7 ?_
  refine lv_istore (lv' := [(6, .int (nI (46 + (5 * C)))), (0, .ref (a 6)), (1, .int k), (2, .int ac), (3, .int fr), (4, .int ti), (5, .int w)]) hE.x hE.b dX9_layClause_8 hl (by decide) rfl (fun ls hl => ?_)
  refine lv_aload_n hE.x hE.b dX9_layClause_10 rfl (lv_at hl 1 rfl) ?_
  refine lv_iload hE.x hE.b dX9_layClause_11 (lv_at hl 0 rfl) ?_
  refine lv_iconst (v := nI 0) hE.x hE.b dX9_layClause_13 rfl ?_
  refine z_iaddN hE dX9_layClause_14 ?_
  refine lv_iload_n hE.x hE.b dX9_layClause_15 rfl (lv_at hl 2 rfl) ?_
  refine z_iast (k := ((46 + (5 * C)) + 0)) (f := (A 6)) (x := k) (ws' := mW g o a F L (updA A 6 (upd (A 6) ((46 + (5 * C)) + 0) k)) ++ X) hE hB 7 rfl (by omega) (by decide) rfl dX9_layClause_16 (fun H locs hB => ?_)
  refine lv_aload_n hE.x hE.b dX9_layClause_17 rfl (lv_at hl 1 rfl) ?_
  refine lv_iload hE.x hE.b dX9_layClause_18 (lv_at hl 0 rfl) ?_
  refine lv_iconst (v := nI 1) hE.x hE.b dX9_layClause_20 rfl ?_
  refine z_iaddN hE dX9_layClause_21 ?_
  refine lv_iload_n hE.x hE.b dX9_layClause_22 rfl (lv_at hl 3 rfl) ?_
  refine z_iast (k := ((46 + (5 * C)) + 1)) (f := (upd (A 6) ((46 + (5 * C)) + 0) k)) (x := ac) (ws' := mW g o a F L (updA A 6 (upd (upd (A 6) ((46 + (5 * C)) + 0) k) ((46 + (5 * C)) + 1) ac)) ++ X) hE hB 7 rfl (by omega) (by decide) rfl dX9_layClause_23 (fun H locs hB => ?_)
  refine lv_aload_n hE.x hE.b dX9_layClause_24 rfl (lv_at hl 1 rfl) ?_
  refine lv_iload hE.x hE.b dX9_layClause_25 (lv_at hl 0 rfl) ?_
  refine lv_iconst (v := nI 2) hE.x hE.b dX9_layClause_27 rfl ?_
  refine z_iaddN hE dX9_layClause_28 ?_
  refine lv_iload_n hE.x hE.b dX9_layClause_29 rfl (lv_at hl 4 rfl) ?_
  refine z_iast (k := ((46 + (5 * C)) + 2)) (f := (upd (upd (A 6) ((46 + (5 * C)) + 0) k) ((46 + (5 * C)) + 1) ac)) (x := fr) (ws' := mW g o a F L (updA A 6 (upd (upd (upd (A 6) ((46 + (5 * C)) + 0) k) ((46 + (5 * C)) + 1) ac) ((46 + (5 * C)) + 2) fr)) ++ X) hE hB 7 rfl (by omega) (by decide) rfl dX9_layClause_30 (fun H locs hB => ?_)
  refine lv_aload_n hE.x hE.b dX9_layClause_31 rfl (lv_at hl 1 rfl) ?_
  refine lv_iload hE.x hE.b dX9_layClause_32 (lv_at hl 0 rfl) ?_
  refine lv_iconst (v := nI 3) hE.x hE.b dX9_layClause_34 rfl ?_
  refine z_iaddN hE dX9_layClause_35 ?_
  refine lv_iload hE.x hE.b dX9_layClause_36 (lv_at hl 5 rfl) ?_
  refine z_iast (k := ((46 + (5 * C)) + 3)) (f := (upd (upd (upd (A 6) ((46 + (5 * C)) + 0) k) ((46 + (5 * C)) + 1) ac) ((46 + (5 * C)) + 2) fr)) (x := ti) (ws' := mW g o a F L (updA A 6 (upd (upd (upd (upd (A 6) ((46 + (5 * C)) + 0) k) ((46 + (5 * C)) + 1) ac) ((46 + (5 * C)) + 2) fr) ((46 + (5 * C)) + 3) ti)) ++ X) hE hB 7 rfl (by omega) (by decide) rfl dX9_layClause_38 (fun H locs hB => ?_)
  refine lv_aload_n hE.x hE.b dX9_layClause_39 rfl (lv_at hl 1 rfl) ?_
  refine lv_iload hE.x hE.b dX9_layClause_40 (lv_at hl 0 rfl) ?_
  refine lv_iconst (v := nI 4) hE.x hE.b dX9_layClause_42 rfl ?_
  refine z_iaddN hE dX9_layClause_43 ?_
  refine lv_iload hE.x hE.b dX9_layClause_44 (lv_at hl 6 rfl) ?_
  refine z_iast (k := ((46 + (5 * C)) + 4)) (f := (upd (upd (upd (upd (A 6) ((46 + (5 * C)) + 0) k) ((46 + (5 * C)) + 1) ac) ((46 + (5 * C)) + 2) fr) ((46 + (5 * C)) + 3) ti)) (x := w) (ws' := mW g o a F L (updA A 6 (upd (upd (upd (upd (upd (A 6) ((46 + (5 * C)) + 0) k) ((46 + (5 * C)) + 1) ac) ((46 + (5 * C)) + 2) fr) ((46 + (5 * C)) + 3) ti) ((46 + (5 * C)) + 4) w)) ++ X) hE hB 7 rfl (by omega) (by decide) rfl dX9_layClause_46 (fun H locs hB => ?_)
  refine lv_aload_n hE.x hE.b dX9_layClause_47 rfl (lv_at hl 1 rfl) ?_
  refine lv_iconst (v := nI 1) hE.x hE.b dX9_layClause_48 rfl ?_
  refine lv_dup2_11 hE.x hE.b dX9_layClause_49 rfl rfl ?_
  refine z_iald (k := 1) (f := (upd (upd (upd (upd (upd (A 6) ((46 + (5 * C)) + 0) k) ((46 + (5 * C)) + 1) ac) ((46 + (5 * C)) + 2) fr) ((46 + (5 * C)) + 3) ti) ((46 + (5 * C)) + 4) w)) hE hB 7 rfl (by omega) (by decide) dX9_layClause_50 ?_
  refine z_top (y := (nI C)) (by simp only [upd]; rw [if_neg (by omega), if_neg (by omega), if_neg (by omega), if_neg (by omega), if_neg (by omega)]; exact hC) ?_
  refine lv_iconst (v := nI 1) hE.x hE.b dX9_layClause_51 rfl ?_
  refine z_iaddN hE dX9_layClause_52 ?_
  refine z_iast (k := 1) (f := (upd (upd (upd (upd (upd (A 6) ((46 + (5 * C)) + 0) k) ((46 + (5 * C)) + 1) ac) ((46 + (5 * C)) + 2) fr) ((46 + (5 * C)) + 3) ti) ((46 + (5 * C)) + 4) w)) (x := (nI (C + 1))) (ws' := mW g o a F L (updA A 6 (upd (upd (upd (upd (upd (upd (A 6) ((46 + (5 * C)) + 0) k) ((46 + (5 * C)) + 1) ac) ((46 + (5 * C)) + 2) fr) ((46 + (5 * C)) + 3) ti) ((46 + (5 * C)) + 4) w) 1 (nI (C + 1)))) ++ X) hE hB 7 rfl (by omega) (by decide) rfl dX9_layClause_53 (fun H locs hB => ?_)
  exact z_vret (ws := mW g o a F L (updA A 6 (upd (upd (upd (upd (upd (upd (A 6) ((46 + (5 * C)) + 0) k) ((46 + (5 * C)) + 1) ac) ((46 + (5 * C)) + 2) fr) ((46 + (5 * C)) + 3) ti) ((46 + (5 * C)) + 4) w) 1 (nI (C + 1)))) ++ X) hE hB hr (rfl) dX9_layClause_54

set_option maxHeartbeats 4000000 in
set_option maxRecDepth 100000 in
theorem c_X9_keep (l : Launch) (g : zG) (o : Nat) (a : Nat → Nat) (F : Nat → Int32) (L : Nat → Int64) (A : Nat → Nat → Int32) (X : va_W) (C : Nat) (U : Nat) (hC : A 0 1 = nI C) (hU : A 0 3 = nI U) (hC8 : C ≤ 8) (hU8 : U ≤ 8) : Met l yX9_keep (Cond.code yX9_keep cX9_keep 3 none :: TBL) { frames := 1, cells := 0, slots := 0, locals := 20 } (zPc [.ref o] g (mW g o a F L A ++ X)) (zQv g (fun ws => ws = mW g o a F L (updA A 0 (nKeep (A 0) U C)) ++ X)) 0 0 (zA (gz g)) := by
  refine z_start (by decide +kernel) rfl (Nat.le_of_ble_eq_true rfl) ?_
  intro p e s m args below meth c ls hE hr hnm hB hl
  have hl : lv_has ls 3 [(0, .ref o)] := hl
  revert hB
  generalize s.heap = H
  generalize ([] : List Loc) = locs
  intro hB
  have hu7 := uK_le hU8
  have k53 : ∀ (B : Nat → Nat → Int32) (H : Heap) (locs : List Loc) (ls : Array Slot), (B = updA A 0 (nK1 (A 0) U)) → zB g s (mW g o a F L B ++ X) H locs → lv_has ls 3 [(0, .ref o)] → W p l e { frames := 1, cells := 0, slots := 0, locals := 20 } s m args below meth c H locs 0 0 (MQ below (zQv g (fun ws => ws = mW g o a F L (updA A 0 (nKeep (A 0) U C)) ++ X)) args s 0 0 (zA (gz g))) (F0 m 53 ls []) := by
    intro B H locs ls hB0 hB hl
    refine lv_bipush (v := (nI 126)) hE.x hE.b dX9_keep_53 rfl ?_
    refine lv_bipush (v := (nI 41)) hE.x hE.b dX9_keep_55 rfl ?_
    refine lv_aload_n hE.x hE.b dX9_keep_57 rfl (lv_at hl 0 rfl) ?_
    refine z_get (v := .ref (a 0)) hE hB inX9 0 rfl rfl 0 (by decide) q4_1 (fun _ h9 => h9) rfl dX9_keep_58 ?_
    refine lv_iconst (v := nI 3) hE.x hE.b dX9_keep_61 rfl ?_
    refine z_iald (k := 3) (f := (B 0)) hE hB 1 rfl (by omega) (by decide) dX9_keep_62 ?_
    refine z_top (y := (nI (uK U))) (by rw [hB0, updA_self]; exact nK1_3 hU) ?_
    refine z_imulN hE dX9_keep_63 ?_
    refine z_iaddN hE dX9_keep_64 ?_
    refine lv_istore_n (lv' := [(1, .int (nI (126 + (41 * (uK U))))), (0, .ref o)]) hE.x hE.b dX9_keep_65 rfl hl (by decide) rfl (fun ls hl => ?_)
    refine lv_iconst (v := nI 0) hE.x hE.b dX9_keep_66 rfl ?_
    refine lv_istore_n (lv' := [(2, .int (nI 0)), (1, .int (nI (126 + (41 * (uK U))))), (0, .ref o)]) hE.x hE.b dX9_keep_67 rfl hl (by decide) rfl (fun ls hl => ?_)
    have k68 : ∀ (fu : Nat) (i : Nat) (D : Nat → Nat → Int32) (H : Heap) (locs : List Loc) (ls : Array Slot), 40 - i < fu → (i ≤ 40) → (D = updA A 0 (fun x => if 126 + 41 * uK U ≤ x ∧ x < 126 + 41 * uK U + i then A 0 (46 + (x - (126 + 41 * uK U))) else nK1 (A 0) U x)) → zB g s (mW g o a F L D ++ X) H locs → lv_has ls 3 [(2, .int (nI i)), (1, .int (nI (126 + (41 * (uK U))))), (0, .ref o)] → W p l e { frames := 1, cells := 0, slots := 0, locals := 20 } s m args below meth c H locs 0 0 (MQ below (zQv g (fun ws => ws = mW g o a F L (updA A 0 (nKeep (A 0) U C)) ++ X)) args s 0 0 (zA (gz g))) (F0 m 68 ls []) := by
      intro fu
      induction fu with
      | zero => intro i D H locs ls hfu hi hD0 hB hl; exact absurd hfu (Nat.not_lt_zero _)
      | succ fu ih68 =>
        intro i D H locs ls hfu hi hD0 hB hl
        refine lv_iload_n hE.x hE.b dX9_keep_68 rfl (lv_at hl 0 rfl) ?_
        refine lv_bipush (v := (nI 40)) hE.x hE.b dX9_keep_69 rfl ?_
        refine z_ge (tgt := 97) (X := ((i : Nat) : Int)) (Y := (40 : Int)) hE dX9_keep_71 (by decide) (nI_toInt (n := i) (by omega)) rfl (fun c_1 => ?_) (fun c_1 => ?_)
        · refine lv_aload_n hE.x hE.b dX9_keep_97 rfl (lv_at hl 2 rfl) ?_
          refine z_get (v := .ref (a 0)) hE hB inX9 0 rfl rfl 0 (by decide) q4_1 (fun _ h9 => h9) rfl dX9_keep_98 ?_
          refine lv_iload_n hE.x hE.b dX9_keep_101 rfl (lv_at hl 1 rfl) ?_
          refine lv_bipush (v := (nI 40)) hE.x hE.b dX9_keep_102 rfl ?_
          refine z_iaddN hE dX9_keep_104 ?_
          refine lv_aload_n hE.x hE.b dX9_keep_105 rfl (lv_at hl 2 rfl) ?_
          refine z_qi hB (z_cV hE hB (c_X9_clauses l g o a F L D X C (by rw [hD0, updA_self, if_neg (by omega), nK1_x (by omega) (by omega)]; exact hC)) q4_123 kX9_clauses ⟨rfl, rfl⟩ ⟨Nat.le_of_ble_eq_true rfl, Nat.le_of_ble_eq_true rfl⟩ 0 rfl rfl rfl hl.1 rfl (Nat.le_of_ble_eq_true rfl) dX9_keep_106 ⟨Nat.le_of_ble_eq_true rfl, Nat.le_of_ble_eq_true rfl⟩) (fun r_2 w_3 H locs hw hB => ?_)
          obtain ⟨hr9, hw9⟩ := hw
          have hr9 := hr9.symm
          subst hr9
          have hw9 := hw9.symm
          subst hw9
          refine z_iast (k := ((126 + (41 * (uK U))) + 40)) (f := (D 0)) (x := (nI C)) (ws' := mW g o a F L (updA D 0 (upd (D 0) ((126 + (41 * (uK U))) + 40) (nI C))) ++ X) hE hB 1 rfl (by omega) (by decide) rfl dX9_keep_109 (fun H locs hB => ?_)
          refine lv_aload_n hE.x hE.b dX9_keep_110 rfl (lv_at hl 2 rfl) ?_
          refine z_get (v := .ref (a 0)) hE hB inX9 0 rfl rfl 0 (by decide) q4_1 (fun _ h9 => h9) rfl dX9_keep_111 ?_
          refine lv_iconst (v := nI 3) hE.x hE.b dX9_keep_114 rfl ?_
          refine lv_dup2_11 hE.x hE.b dX9_keep_115 rfl rfl ?_
          refine z_iald (k := 3) (f := (upd (D 0) ((126 + (41 * (uK U))) + 40) (nI C))) hE hB 1 rfl (by omega) (by decide) dX9_keep_116 ?_
          refine z_top (y := (nI (uK U))) (by rw [hD0, updA_self]; simp only [upd]; rw [if_neg (by omega), if_neg (by omega)]; exact nK1_3 hU) ?_
          refine lv_iconst (v := nI 1) hE.x hE.b dX9_keep_117 rfl ?_
          refine z_iaddN hE dX9_keep_118 ?_
          refine z_iast (k := 3) (f := (upd (D 0) ((126 + (41 * (uK U))) + 40) (nI C))) (x := (nI ((uK U) + 1))) (ws' := mW g o a F L (updA D 0 (upd (upd (D 0) ((126 + (41 * (uK U))) + 40) (nI C)) 3 (nI ((uK U) + 1)))) ++ X) hE hB 1 rfl (by omega) (by decide) rfl dX9_keep_119 (fun H locs hB => ?_)
          exact z_vret (ws := mW g o a F L (updA D 0 (upd (upd (D 0) ((126 + (41 * (uK U))) + 40) (nI C)) 3 (nI ((uK U) + 1)))) ++ X) hE hB hr (by rw [hD0, updA_self, updA_updA]; rw [updA_eq (f' := nKeep (A 0) U C) (fun x => by simp only [nKeep, upd, nCp]; (repeat' split) <;> first | rfl | omega | (rw [nK1_x (by omega) (by omega)]))]) dX9_keep_120
        · refine lv_aload_n hE.x hE.b dX9_keep_74 rfl (lv_at hl 2 rfl) ?_
          refine z_get (v := .ref (a 0)) hE hB inX9 0 rfl rfl 0 (by decide) q4_1 (fun _ h9 => h9) rfl dX9_keep_75 ?_
          refine lv_iload_n hE.x hE.b dX9_keep_78 rfl (lv_at hl 1 rfl) ?_
          refine lv_iload_n hE.x hE.b dX9_keep_79 rfl (lv_at hl 0 rfl) ?_
          refine z_iaddN hE dX9_keep_80 ?_
          refine lv_aload_n hE.x hE.b dX9_keep_81 rfl (lv_at hl 2 rfl) ?_
          refine z_get (v := .ref (a 0)) hE hB inX9 0 rfl rfl 0 (by decide) q4_1 (fun _ h9 => h9) rfl dX9_keep_82 ?_
          refine lv_bipush (v := (nI 46)) hE.x hE.b dX9_keep_85 rfl ?_
          refine lv_iload_n hE.x hE.b dX9_keep_87 rfl (lv_at hl 0 rfl) ?_
          refine z_iaddN hE dX9_keep_88 ?_
          refine z_iald (k := (46 + i)) (f := (D 0)) hE hB 1 rfl (by omega) (by decide) dX9_keep_89 ?_
          refine z_iast (k := ((126 + (41 * (uK U))) + i)) (f := (D 0)) (x := ((D 0) (46 + i))) (ws' := mW g o a F L (updA D 0 (upd (D 0) ((126 + (41 * (uK U))) + i) ((D 0) (46 + i)))) ++ X) hE hB 1 rfl (by omega) (by decide) rfl dX9_keep_90 (fun H locs hB => ?_)
          refine lv_iinc (v := (nI (i + 1))) (lv' := [(2, .int (nI (i + 1))), (1, .int (nI (126 + (41 * (uK U))))), (0, .ref o)]) hE.x hE.b dX9_keep_91 hl (k := 0) rfl (nI_add _ _) (by decide) rfl (fun ls hl => ?_)
          refine lv_goto (tgt := 68) hE.x hE.b dX9_keep_94 (by decide) ?_
          exact ih68 (i + 1) (updA D 0 (upd (D 0) ((126 + (41 * (uK U))) + i) ((D 0) (46 + i)))) _ _ _ (by omega) (by omega) (updA_step hD0 fun x => by rw [hD0, updA_self]; simp only [upd]; (repeat' split) <;> first | rfl | omega | (rw [nK1_x (by omega) (by omega)]; congr 1; omega)) hB hl
    exact k68 (40 - 0 + 1) 0 B _ _ _ (Nat.lt_succ_self _) (by omega) (by rw [hB0]; exact updA_eq fun x => by rw [if_neg (by omega)]) hB hl
  refine lv_aload_n hE.x hE.b dX9_keep_0 rfl (lv_at hl 0 rfl) ?_
  refine z_get (v := .ref (a 0)) hE hB inX9 0 rfl rfl 0 (by decide) q4_1 (fun _ h9 => h9) rfl dX9_keep_1 ?_
  refine lv_iconst (v := nI 3) hE.x hE.b dX9_keep_4 rfl ?_
  refine z_iald (k := 3) (f := (A 0)) hE hB 1 rfl (by omega) (by decide) dX9_keep_5 ?_
  refine z_top (y := (nI U)) hU ?_
  refine lv_bipush (v := (nI 8)) hE.x hE.b dX9_keep_6 rfl ?_
  refine z_ne (tgt := 53) (X := ((U : Nat) : Int)) (Y := (8 : Int)) hE dX9_keep_8 (by decide) (nI_toInt (n := U) (by omega)) rfl (fun c_4 => ?_) (fun c_4 => ?_)
  · exact k53 A _ _ _ (updA_id fun x => by unfold nK1; rw [if_neg (by omega)]) hB hl
  · refine lv_iconst (v := nI 0) hE.x hE.b dX9_keep_11 rfl ?_
    refine lv_istore_n (lv' := [(1, .int (nI 0)), (0, .ref o)]) hE.x hE.b dX9_keep_12 rfl hl (by decide) rfl (fun ls hl => ?_)
    have k13 : ∀ (fu : Nat) (i : Nat) (B : Nat → Nat → Int32) (H : Heap) (locs : List Loc) (ls : Array Slot), 287 - i < fu → (i ≤ 287) → (B = updA A 0 (fun x => if 126 ≤ x ∧ x < 126 + i then A 0 (x + 41) else A 0 x)) → zB g s (mW g o a F L B ++ X) H locs → lv_has ls 3 [(1, .int (nI i)), (0, .ref o)] → W p l e { frames := 1, cells := 0, slots := 0, locals := 20 } s m args below meth c H locs 0 0 (MQ below (zQv g (fun ws => ws = mW g o a F L (updA A 0 (nKeep (A 0) U C)) ++ X)) args s 0 0 (zA (gz g))) (F0 m 13 ls []) := by
      intro fu
      induction fu with
      | zero => intro i B H locs ls hfu hi hB0 hB hl; exact absurd hfu (Nat.not_lt_zero _)
      | succ fu ih13 =>
        intro i B H locs ls hfu hi hB0 hB hl
        refine lv_iload_n hE.x hE.b dX9_keep_13 rfl (lv_at hl 0 rfl) ?_
        refine lv_sipush (v := (nI 287)) hE.x hE.b dX9_keep_14 rfl ?_
        refine z_ge (tgt := 45) (X := ((i : Nat) : Int)) (Y := (287 : Int)) hE dX9_keep_17 (by decide) (nI_toInt (n := i) (by omega)) rfl (fun c_5 => ?_) (fun c_5 => ?_)
        · refine lv_aload_n hE.x hE.b dX9_keep_45 rfl (lv_at hl 1 rfl) ?_
          refine z_get (v := .ref (a 0)) hE hB inX9 0 rfl rfl 0 (by decide) q4_1 (fun _ h9 => h9) rfl dX9_keep_46 ?_
          refine lv_iconst (v := nI 3) hE.x hE.b dX9_keep_49 rfl ?_
          refine lv_bipush (v := (nI 7)) hE.x hE.b dX9_keep_50 rfl ?_
          refine z_iast (k := 3) (f := (B 0)) (x := (nI 7)) (ws' := mW g o a F L (updA B 0 (upd (B 0) 3 (nI 7))) ++ X) hE hB 1 rfl (by omega) (by decide) rfl dX9_keep_52 (fun H locs hB => ?_)
          exact k53 (updA B 0 (upd (B 0) 3 (nI 7))) _ _ _ (by rw [hB0, updA_self, updA_updA]; exact updA_eq fun x => by simp only [nK1, if_pos (show U = 8 by omega), upd, nSh]; (repeat' split) <;> first | rfl | omega) hB (lv_sub hl [1] rfl)
        · refine lv_aload_n hE.x hE.b dX9_keep_20 rfl (lv_at hl 1 rfl) ?_
          refine z_get (v := .ref (a 0)) hE hB inX9 0 rfl rfl 0 (by decide) q4_1 (fun _ h9 => h9) rfl dX9_keep_21 ?_
          refine lv_bipush (v := (nI 126)) hE.x hE.b dX9_keep_24 rfl ?_
          refine lv_iload_n hE.x hE.b dX9_keep_26 rfl (lv_at hl 0 rfl) ?_
          refine z_iaddN hE dX9_keep_27 ?_
          refine lv_aload_n hE.x hE.b dX9_keep_28 rfl (lv_at hl 1 rfl) ?_
          refine z_get (v := .ref (a 0)) hE hB inX9 0 rfl rfl 0 (by decide) q4_1 (fun _ h9 => h9) rfl dX9_keep_29 ?_
          refine lv_sipush (v := (nI 167)) hE.x hE.b dX9_keep_32 rfl ?_
          refine lv_iload_n hE.x hE.b dX9_keep_35 rfl (lv_at hl 0 rfl) ?_
          refine z_iaddN hE dX9_keep_36 ?_
          refine z_iald (k := (167 + i)) (f := (B 0)) hE hB 1 rfl (by omega) (by decide) dX9_keep_37 ?_
          refine z_iast (k := (126 + i)) (f := (B 0)) (x := ((B 0) (167 + i))) (ws' := mW g o a F L (updA B 0 (upd (B 0) (126 + i) ((B 0) (167 + i)))) ++ X) hE hB 1 rfl (by omega) (by decide) rfl dX9_keep_38 (fun H locs hB => ?_)
          refine lv_iinc (v := (nI (i + 1))) (lv' := [(1, .int (nI (i + 1))), (0, .ref o)]) hE.x hE.b dX9_keep_39 hl (k := 0) rfl (nI_add _ _) (by decide) rfl (fun ls hl => ?_)
          refine lv_goto (tgt := 13) hE.x hE.b dX9_keep_42 (by decide) ?_
          exact ih13 (i + 1) (updA B 0 (upd (B 0) (126 + i) ((B 0) (167 + i)))) _ _ _ (by omega) (by omega) (updA_step hB0 (fun x => by rw [hB0, updA_self]; simp only [upd]; (repeat' split) <;> first | rfl | omega | (congr 1; omega))) hB hl
    exact k13 (287 - 0 + 1) 0 A _ _ _ (Nat.lt_succ_self _) (by omega) (updA_id fun x => by rw [if_neg (by omega)]) hB hl

set_option maxHeartbeats 4000000 in
set_option maxRecDepth 100000 in
theorem c_X9_clause (l : Launch) (g : zG) (o : Nat) (a : Nat → Nat) (F : Nat → Int32) (L : Nat → Int64) (A : Nat → Nat → Int32) (X : va_W) (T : Nat) (C : Nat) (V : Nat) (U : Nat) (k : Int32) (ac : Int32) (fr : Int32) (ti : Int32) (w : Int32) (hn : nOK (A 0) T C V U) : Met l yX9_clause (Cond.code yX9_clause cX9_clause 6 (some .int) :: TBL) { frames := 2, cells := 0, slots := 0, locals := 45 } (zPc [.ref o, .int k, .int ac, .int fr, .int ti, .int w] g (mW g o a F L A ++ X)) (zQi g (fun r ws => r = (clauseR C k ac fr ti w) ∧ ws = mW g o a F L (clauseA A C U k ac fr ti w) ++ X)) 0 0 (zA (gz g)) := by
  refine z_start (by decide +kernel) rfl (Nat.le_of_ble_eq_true rfl) ?_
  intro p e s m args below meth c ls hE hr hnm hB hl
  have hl : lv_has ls 6 [(0, .ref o), (1, .int k), (2, .int ac), (3, .int fr), (4, .int ti), (5, .int w)] := hl
  revert hB
  generalize s.heap = H
  generalize ([] : List Loc) = locs
  intro hB
  have hT := hn.T
  have hT6 := hn.T6
  have hC := hn.C
  have hC8 := hn.C8
  have hV := hn.V
  have hV8 := hn.V8
  have hU := hn.U
  have hU8 := hn.U8
  refine lv_iload_n hE.x hE.b dX9_clause_0 rfl (lv_at hl 1 rfl) ?_
  refine lv_i2l hE.x hE.b dX9_clause_1 rfl ?_
  refine lv_lconst (v := lN 0) hE.x hE.b dX9_clause_2 rfl ?_
  refine lv_ldc2 (v := lN 5) hE.x hE.b hE.o (hE.t _ q4_118) dX9_clause_3 ?_
  refine z_qi hB (z_cS hE hB (c_X9_in l g (Int32.toInt64 k) (lN 0) (lN 5) (Int32.toInt k) 0 5 (mW g o a F L A ++ X) (Int32.toInt_toInt64 _) (by decide) (by decide)) q4_88 kX9_in ⟨rfl, rfl⟩ ⟨Nat.le_of_ble_eq_true rfl, Nat.le_of_ble_eq_true rfl⟩ rfl hl.1 rfl (Nat.le_of_ble_eq_true rfl) dX9_clause_6 ⟨Nat.le_of_ble_eq_true rfl, Nat.le_of_ble_eq_true rfl⟩) (fun r_1 w_2 H locs hw hB => ?_)
  obtain ⟨hr9, hw9⟩ := hw
  have hr9 := hr9.symm
  subst hr9
  have hw9 := hw9.symm
  subst hw9
  refine z_bf (b := (inZ 0 5 (Int32.toInt k))) (tgt := 57) hE dX9_clause_9 (by decide) (fun c_3 => ?_) (fun c_3 => ?_)
  · refine lv_aload_n hE.x hE.b dX9_clause_57 rfl (lv_at hl 0 rfl) ?_
    refine lv_bipush (v := (-2)) hE.x hE.b dX9_clause_58 rfl ?_
    refine z_qi hB (z_cV hE hB (c_X9_bad l g o a F L A X (-2)) q4_91 kX9_bad ⟨rfl, rfl⟩ ⟨Nat.le_of_ble_eq_true rfl, Nat.le_of_ble_eq_true rfl⟩ 0 rfl rfl rfl hl.1 rfl (Nat.le_of_ble_eq_true rfl) dX9_clause_60 ⟨Nat.le_of_ble_eq_true rfl, Nat.le_of_ble_eq_true rfl⟩) (fun r_4 w_5 H locs hw hB => ?_)
    obtain ⟨hr9, hw9⟩ := hw
    have hr9 := hr9.symm
    subst hr9
    have hw9 := hw9.symm
    subst hw9
    exact z_iret (v := (-2)) (ws := mW g o a F L (bump 0 A) ++ X) hE hB hr (⟨by unfold clauseR clauseOK; simp [c_3], by unfold clauseA clauseOK; simp [c_3]⟩) dX9_clause_63
  · refine lv_iload_n hE.x hE.b dX9_clause_12 rfl (lv_at hl 2 rfl) ?_
    refine z_qi hB (z_cS hE hB (c_X9_isAct l g ac (mW g o a F L A ++ X)) q4_119 kX9_isAct ⟨rfl, rfl⟩ ⟨Nat.le_of_ble_eq_true rfl, Nat.le_of_ble_eq_true rfl⟩ rfl hl.1 rfl (Nat.le_of_ble_eq_true rfl) dX9_clause_13 ⟨Nat.le_of_ble_eq_true rfl, Nat.le_of_ble_eq_true rfl⟩) (fun r_6 w_7 H locs hw hB => ?_)
    obtain ⟨hr9, hw9⟩ := hw
    have hr9 := hr9.symm
    subst hr9
    have hw9 := hw9.symm
    subst hw9
    refine z_bf (b := (pIn 0 5 ac)) (tgt := 57) hE dX9_clause_16 (by decide) (fun c_8 => ?_) (fun c_8 => ?_)
    · refine lv_aload_n hE.x hE.b dX9_clause_57 rfl (lv_at hl 0 rfl) ?_
      refine lv_bipush (v := (-2)) hE.x hE.b dX9_clause_58 rfl ?_
      refine z_qi hB (z_cV hE hB (c_X9_bad l g o a F L A X (-2)) q4_91 kX9_bad ⟨rfl, rfl⟩ ⟨Nat.le_of_ble_eq_true rfl, Nat.le_of_ble_eq_true rfl⟩ 0 rfl rfl rfl hl.1 rfl (Nat.le_of_ble_eq_true rfl) dX9_clause_60 ⟨Nat.le_of_ble_eq_true rfl, Nat.le_of_ble_eq_true rfl⟩) (fun r_9 w_10 H locs hw hB => ?_)
      obtain ⟨hr9, hw9⟩ := hw
      have hr9 := hr9.symm
      subst hr9
      have hw9 := hw9.symm
      subst hw9
      exact z_iret (v := (-2)) (ws := mW g o a F L (bump 0 A) ++ X) hE hB hr (⟨by unfold clauseR clauseOK; simp [c_3, c_8], by unfold clauseA clauseOK; simp [c_3, c_8]⟩) dX9_clause_63
    · refine lv_iload hE.x hE.b dX9_clause_19 (lv_at hl 4 rfl) ?_
      refine lv_i2l hE.x hE.b dX9_clause_21 rfl ?_
      refine lv_lconst (v := lN 0) hE.x hE.b dX9_clause_22 rfl ?_
      refine lv_ldc2 (v := lN 60) hE.x hE.b hE.o (hE.t _ q4_122) dX9_clause_23 ?_
      refine z_qi hB (z_cS hE hB (c_X9_in l g (Int32.toInt64 ti) (lN 0) (lN 60) (Int32.toInt ti) 0 60 (mW g o a F L A ++ X) (Int32.toInt_toInt64 _) (by decide) (by decide)) q4_88 kX9_in ⟨rfl, rfl⟩ ⟨Nat.le_of_ble_eq_true rfl, Nat.le_of_ble_eq_true rfl⟩ rfl hl.1 rfl (Nat.le_of_ble_eq_true rfl) dX9_clause_26 ⟨Nat.le_of_ble_eq_true rfl, Nat.le_of_ble_eq_true rfl⟩) (fun r_11 w_12 H locs hw hB => ?_)
      obtain ⟨hr9, hw9⟩ := hw
      have hr9 := hr9.symm
      subst hr9
      have hw9 := hw9.symm
      subst hw9
      refine z_bf (b := (inZ 0 60 (Int32.toInt ti))) (tgt := 57) hE dX9_clause_29 (by decide) (fun c_13 => ?_) (fun c_13 => ?_)
      · refine lv_aload_n hE.x hE.b dX9_clause_57 rfl (lv_at hl 0 rfl) ?_
        refine lv_bipush (v := (-2)) hE.x hE.b dX9_clause_58 rfl ?_
        refine z_qi hB (z_cV hE hB (c_X9_bad l g o a F L A X (-2)) q4_91 kX9_bad ⟨rfl, rfl⟩ ⟨Nat.le_of_ble_eq_true rfl, Nat.le_of_ble_eq_true rfl⟩ 0 rfl rfl rfl hl.1 rfl (Nat.le_of_ble_eq_true rfl) dX9_clause_60 ⟨Nat.le_of_ble_eq_true rfl, Nat.le_of_ble_eq_true rfl⟩) (fun r_14 w_15 H locs hw hB => ?_)
        obtain ⟨hr9, hw9⟩ := hw
        have hr9 := hr9.symm
        subst hr9
        have hw9 := hw9.symm
        subst hw9
        exact z_iret (v := (-2)) (ws := mW g o a F L (bump 0 A) ++ X) hE hB hr (⟨by unfold clauseR clauseOK; simp [c_3, c_8, c_13], by unfold clauseA clauseOK; simp [c_3, c_8, c_13]⟩) dX9_clause_63
      · refine lv_iload_n hE.x hE.b dX9_clause_32 rfl (lv_at hl 3 rfl) ?_
        refine lv_i2l hE.x hE.b dX9_clause_33 rfl ?_
        refine lv_lconst (v := lN 0) hE.x hE.b dX9_clause_34 rfl ?_
        refine lv_iload hE.x hE.b dX9_clause_35 (lv_at hl 4 rfl) ?_
        refine lv_i2l hE.x hE.b dX9_clause_37 rfl ?_
        refine z_qi hB (z_cS hE hB (c_X9_in l g (Int32.toInt64 fr) (lN 0) (Int32.toInt64 ti) (Int32.toInt fr) 0 (Int32.toInt ti) (mW g o a F L A ++ X) (Int32.toInt_toInt64 _) (by decide) (Int32.toInt_toInt64 _)) q4_88 kX9_in ⟨rfl, rfl⟩ ⟨Nat.le_of_ble_eq_true rfl, Nat.le_of_ble_eq_true rfl⟩ rfl hl.1 rfl (Nat.le_of_ble_eq_true rfl) dX9_clause_38 ⟨Nat.le_of_ble_eq_true rfl, Nat.le_of_ble_eq_true rfl⟩) (fun r_16 w_17 H locs hw hB => ?_)
        obtain ⟨hr9, hw9⟩ := hw
        have hr9 := hr9.symm
        subst hr9
        have hw9 := hw9.symm
        subst hw9
        refine z_bf (b := (inZ 0 (Int32.toInt ti) (Int32.toInt fr))) (tgt := 57) hE dX9_clause_41 (by decide) (fun c_18 => ?_) (fun c_18 => ?_)
        · refine lv_aload_n hE.x hE.b dX9_clause_57 rfl (lv_at hl 0 rfl) ?_
          refine lv_bipush (v := (-2)) hE.x hE.b dX9_clause_58 rfl ?_
          refine z_qi hB (z_cV hE hB (c_X9_bad l g o a F L A X (-2)) q4_91 kX9_bad ⟨rfl, rfl⟩ ⟨Nat.le_of_ble_eq_true rfl, Nat.le_of_ble_eq_true rfl⟩ 0 rfl rfl rfl hl.1 rfl (Nat.le_of_ble_eq_true rfl) dX9_clause_60 ⟨Nat.le_of_ble_eq_true rfl, Nat.le_of_ble_eq_true rfl⟩) (fun r_19 w_20 H locs hw hB => ?_)
          obtain ⟨hr9, hw9⟩ := hw
          have hr9 := hr9.symm
          subst hr9
          have hw9 := hw9.symm
          subst hw9
          exact z_iret (v := (-2)) (ws := mW g o a F L (bump 0 A) ++ X) hE hB hr (⟨by unfold clauseR clauseOK; simp [c_3, c_8, c_13, c_18], by unfold clauseA clauseOK; simp [c_3, c_8, c_13, c_18]⟩) dX9_clause_63
        · refine lv_iload hE.x hE.b dX9_clause_44 (lv_at hl 5 rfl) ?_
          refine lv_i2l hE.x hE.b dX9_clause_46 rfl ?_
          refine lv_lconst (v := lN 0) hE.x hE.b dX9_clause_47 rfl ?_
          refine lv_ldc2 (v := lN 5) hE.x hE.b hE.o (hE.t _ q4_118) dX9_clause_48 ?_
          refine z_qi hB (z_cS hE hB (c_X9_in l g (Int32.toInt64 w) (lN 0) (lN 5) (Int32.toInt w) 0 5 (mW g o a F L A ++ X) (Int32.toInt_toInt64 _) (by decide) (by decide)) q4_88 kX9_in ⟨rfl, rfl⟩ ⟨Nat.le_of_ble_eq_true rfl, Nat.le_of_ble_eq_true rfl⟩ rfl hl.1 rfl (Nat.le_of_ble_eq_true rfl) dX9_clause_51 ⟨Nat.le_of_ble_eq_true rfl, Nat.le_of_ble_eq_true rfl⟩) (fun r_21 w_22 H locs hw hB => ?_)
          obtain ⟨hr9, hw9⟩ := hw
          have hr9 := hr9.symm
          subst hr9
          have hw9 := hw9.symm
          subst hw9
          refine z_bt (b := (inZ 0 5 (Int32.toInt w))) (tgt := 64) hE dX9_clause_54 (by decide) (fun c_23 => ?_) (fun c_23 => ?_)
          · refine lv_aload_n hE.x hE.b dX9_clause_64 rfl (lv_at hl 0 rfl) ?_
            refine z_qi hB (z_cV hE hB (c_X9_clauses l g o a F L A X C hC) q4_123 kX9_clauses ⟨rfl, rfl⟩ ⟨Nat.le_of_ble_eq_true rfl, Nat.le_of_ble_eq_true rfl⟩ 0 rfl rfl rfl hl.1 rfl (Nat.le_of_ble_eq_true rfl) dX9_clause_65 ⟨Nat.le_of_ble_eq_true rfl, Nat.le_of_ble_eq_true rfl⟩) (fun r_24 w_25 H locs hw hB => ?_)
            obtain ⟨hr9, hw9⟩ := hw
            have hr9 := hr9.symm
            subst hr9
            have hw9 := hw9.symm
            subst hw9
            refine lv_bipush (v := (nI 8)) hE.x hE.b dX9_clause_68 rfl ?_
            refine z_ne (tgt := 78) (X := ((C : Nat) : Int)) (Y := (8 : Int)) hE dX9_clause_70 (by decide) (nI_toInt (n := C) (by omega)) rfl (fun c_26 => ?_) (fun c_26 => ?_)
            · refine lv_aload_n hE.x hE.b dX9_clause_78 rfl (lv_at hl 0 rfl) ?_
              refine z_qv hB (z_cV hE hB (c_X9_keep l g o a F L A X C U hC hU (by omega) (by omega)) q4_127 kX9_keep ⟨rfl, rfl⟩ ⟨Nat.le_of_ble_eq_true rfl, Nat.le_of_ble_eq_true rfl⟩ 0 rfl rfl rfl hl.1 rfl (Nat.le_of_ble_eq_true rfl) dX9_clause_79 ⟨Nat.le_of_ble_eq_true rfl, Nat.le_of_ble_eq_true rfl⟩) (fun w_28 H locs hw hB => ?_)
              have hw9 := hw
              have hw9 := hw9.symm
              subst hw9
              refine lv_aload_n hE.x hE.b dX9_clause_82 rfl (lv_at hl 0 rfl) ?_
              refine z_get (v := .ref (a 0)) hE hB inX9 0 rfl rfl 0 (by decide) q4_1 (fun _ h9 => h9) rfl dX9_clause_83 ?_
              refine lv_iload_n hE.x hE.b dX9_clause_86 rfl (lv_at hl 1 rfl) ?_
              refine lv_iload_n hE.x hE.b dX9_clause_87 rfl (lv_at hl 2 rfl) ?_
              refine lv_iload_n hE.x hE.b dX9_clause_88 rfl (lv_at hl 3 rfl) ?_
              refine lv_iload hE.x hE.b dX9_clause_89 (lv_at hl 4 rfl) ?_
              refine lv_iload hE.x hE.b dX9_clause_91 (lv_at hl 5 rfl) ?_
              refine z_qv hB (z_cS hE hB (c_X9_layClause_0 l g o a F L (updA A 0 (nKeep (A 0) U C)) X C k ac fr ti w (by rw [updA_self, nKeep_1]; exact hC) (by omega)) q4_131 kX9_layClause ⟨rfl, rfl⟩ ⟨Nat.le_of_ble_eq_true rfl, Nat.le_of_ble_eq_true rfl⟩ rfl hl.1 rfl (Nat.le_of_ble_eq_true rfl) dX9_clause_93 ⟨Nat.le_of_ble_eq_true rfl, Nat.le_of_ble_eq_true rfl⟩) (fun w_30 H locs hw hB => ?_)
              have hw9 := hw
              have hw9 := hw9.symm
              subst hw9
              refine lv_aload_n hE.x hE.b dX9_clause_96 rfl (lv_at hl 0 rfl) ?_
              refine z_qi hB (z_cV hE hB (c_X9_clauses l g o a F L (updA A 0 (nCl (nKeep (A 0) U C) C k ac fr ti w)) X (C + 1) (by rw [updA_self]; simp [nCl, upd])) q4_123 kX9_clauses ⟨rfl, rfl⟩ ⟨Nat.le_of_ble_eq_true rfl, Nat.le_of_ble_eq_true rfl⟩ 0 rfl rfl rfl hl.1 rfl (Nat.le_of_ble_eq_true rfl) dX9_clause_97 ⟨Nat.le_of_ble_eq_true rfl, Nat.le_of_ble_eq_true rfl⟩) (fun r_31 w_32 H locs hw hB => ?_)
              obtain ⟨hr9, hw9⟩ := hw
              have hr9 := hr9.symm
              subst hr9
              have hw9 := hw9.symm
              subst hw9
              refine lv_iconst (v := nI 1) hE.x hE.b dX9_clause_100 rfl ?_
              refine z_isubN hE (by omega) dX9_clause_101 ?_
              exact z_iret (v := (nI ((C + 1) - 1))) (ws := mW g o a F L (updA A 0 (nCl (nKeep (A 0) U C) C k ac fr ti w)) ++ X) hE hB hr (⟨by unfold clauseR clauseOK; simp [c_3, c_8, c_13, c_18, c_23, show ¬ C = 8 by omega], by unfold clauseA clauseOK; simp [c_3, c_8, c_13, c_18, c_23, show ¬ C = 8 by omega]⟩) dX9_clause_102
            · refine lv_aload_n hE.x hE.b dX9_clause_73 rfl (lv_at hl 0 rfl) ?_
              refine z_qi hB (z_cV hE hB (c_X9_full l g o a F L A X) q4_95 kX9_full ⟨rfl, rfl⟩ ⟨Nat.le_of_ble_eq_true rfl, Nat.le_of_ble_eq_true rfl⟩ 0 rfl rfl rfl hl.1 rfl (Nat.le_of_ble_eq_true rfl) dX9_clause_74 ⟨Nat.le_of_ble_eq_true rfl, Nat.le_of_ble_eq_true rfl⟩) (fun r_33 w_34 H locs hw hB => ?_)
              obtain ⟨hr9, hw9⟩ := hw
              have hr9 := hr9.symm
              subst hr9
              have hw9 := hw9.symm
              subst hw9
              exact z_iret (v := (-4)) (ws := mW g o a F L (bump 2 A) ++ X) hE hB hr (⟨by unfold clauseR clauseOK; simp [c_3, c_8, c_13, c_18, c_23, show C = 8 by omega], by unfold clauseA clauseOK; simp [c_3, c_8, c_13, c_18, c_23, show C = 8 by omega]⟩) dX9_clause_77
          · refine lv_aload_n hE.x hE.b dX9_clause_57 rfl (lv_at hl 0 rfl) ?_
            refine lv_bipush (v := (-2)) hE.x hE.b dX9_clause_58 rfl ?_
            refine z_qi hB (z_cV hE hB (c_X9_bad l g o a F L A X (-2)) q4_91 kX9_bad ⟨rfl, rfl⟩ ⟨Nat.le_of_ble_eq_true rfl, Nat.le_of_ble_eq_true rfl⟩ 0 rfl rfl rfl hl.1 rfl (Nat.le_of_ble_eq_true rfl) dX9_clause_60 ⟨Nat.le_of_ble_eq_true rfl, Nat.le_of_ble_eq_true rfl⟩) (fun r_35 w_36 H locs hw hB => ?_)
            obtain ⟨hr9, hw9⟩ := hw
            have hr9 := hr9.symm
            subst hr9
            have hw9 := hw9.symm
            subst hw9
            exact z_iret (v := (-2)) (ws := mW g o a F L (bump 0 A) ++ X) hE hB hr (⟨by unfold clauseR clauseOK; simp [c_3, c_8, c_13, c_18, c_23], by unfold clauseA clauseOK; simp [c_3, c_8, c_13, c_18, c_23]⟩) dX9_clause_63

set_option maxHeartbeats 4000000 in
set_option maxRecDepth 100000 in
theorem c_X9_strike (l : Launch) (g : zG) (o : Nat) (a : Nat → Nat) (F : Nat → Int32) (L : Nat → Int64) (A : Nat → Nat → Int32) (X : va_W) (T : Nat) (C : Nat) (V : Nat) (U : Nat) (x : Int32) (hn : nOK (A 0) T C V U) : Met l yX9_strike (Cond.code yX9_strike cX9_strike 3 (some .int) :: TBL) { frames := 2, cells := 0, slots := 0, locals := 46 } (zPc [.ref o, .int x] g (mW g o a F L A ++ X)) (zQi g (fun r ws => r = (strikeR C x) ∧ ws = mW g o a F L (strikeA A C U x) ++ X)) 0 0 (zA (gz g)) := by
  refine z_start (by decide +kernel) rfl (Nat.le_of_ble_eq_true rfl) ?_
  intro p e s m args below meth c ls hE hr hnm hB hl
  have hl : lv_has ls 3 [(0, .ref o), (1, .int x)] := hl
  revert hB
  generalize s.heap = H
  generalize ([] : List Loc) = locs
  intro hB
  have hT := hn.T
  have hT6 := hn.T6
  have hC := hn.C
  have hC8 := hn.C8
  have hV := hn.V
  have hV8 := hn.V8
  have hU := hn.U
  have hU8 := hn.U8
  refine lv_aload_n hE.x hE.b dX9_strike_0 rfl (lv_at hl 0 rfl) ?_
  refine lv_iload_n hE.x hE.b dX9_strike_1 rfl (lv_at hl 1 rfl) ?_
  refine z_qi hB (z_cV hE hB (c_X9_isClause l g o a F L A X C x hC (by omega)) q4_138 kX9_isClause ⟨rfl, rfl⟩ ⟨Nat.le_of_ble_eq_true rfl, Nat.le_of_ble_eq_true rfl⟩ 0 rfl rfl rfl hl.1 rfl (Nat.le_of_ble_eq_true rfl) dX9_strike_2 ⟨Nat.le_of_ble_eq_true rfl, Nat.le_of_ble_eq_true rfl⟩) (fun r_1 w_2 H locs hw hB => ?_)
  obtain ⟨hr9, hw9⟩ := hw
  have hr9 := hr9.symm
  subst hr9
  have hw9 := hw9.symm
  subst hw9
  refine z_bt (b := (pTown C x)) (tgt := 15) hE dX9_strike_5 (by decide) (fun c_3 => ?_) (fun c_3 => ?_)
  · obtain ⟨q, hq, rfl⟩ := pTown_nI c_3 (by omega)
    refine lv_aload_n hE.x hE.b dX9_strike_15 rfl (lv_at hl 0 rfl) ?_
    refine z_qv hB (z_cV hE hB (c_X9_keep l g o a F L A X C U hC hU (by omega) (by omega)) q4_127 kX9_keep ⟨rfl, rfl⟩ ⟨Nat.le_of_ble_eq_true rfl, Nat.le_of_ble_eq_true rfl⟩ 0 rfl rfl rfl hl.1 rfl (Nat.le_of_ble_eq_true rfl) dX9_strike_16 ⟨Nat.le_of_ble_eq_true rfl, Nat.le_of_ble_eq_true rfl⟩) (fun w_5 H locs hw hB => ?_)
    have hw9 := hw
    have hw9 := hw9.symm
    subst hw9
    refine lv_iconst (v := nI 5) hE.x hE.b dX9_strike_19 rfl ?_
    refine lv_iload_n hE.x hE.b dX9_strike_20 rfl (lv_at hl 1 rfl) ?_
    refine z_imulN hE dX9_strike_21 ?_
    refine lv_istore_n (lv' := [(2, .int (nI (5 * q))), (0, .ref o), (1, .int (nI q))]) hE.x hE.b dX9_strike_22 rfl hl (by decide) rfl (fun ls hl => ?_)
    have k23 : ∀ (fu : Nat) (i : Nat) (B : Nat → Nat → Int32) (H : Heap) (locs : List Loc) (ls : Array Slot), 35 - i < fu → (5 * q ≤ i ∧ i ≤ 35) → (B = updA A 0 (fun x => if 46 + 5 * q ≤ x ∧ x < 46 + i then nKeep (A 0) U C (x + 5) else nKeep (A 0) U C x)) → zB g s (mW g o a F L B ++ X) H locs → lv_has ls 3 [(2, .int (nI i)), (0, .ref o), (1, .int (nI q))] → W p l e { frames := 2, cells := 0, slots := 0, locals := 46 } s m args below meth c H locs 0 0 (MQ below (zQi g (fun r ws => r = (strikeR C (nI q)) ∧ ws = mW g o a F L (strikeA A C U (nI q)) ++ X)) args s 0 0 (zA (gz g))) (F0 m 23 ls []) := by
      intro fu
      induction fu with
      | zero => intro i B H locs ls hfu hi hB0 hB hl; exact absurd hfu (Nat.not_lt_zero _)
      | succ fu ih23 =>
        intro i B H locs ls hfu hi hB0 hB hl
        refine lv_iload_n hE.x hE.b dX9_strike_23 rfl (lv_at hl 0 rfl) ?_
        refine lv_bipush (v := (nI 35)) hE.x hE.b dX9_strike_24 rfl ?_
        refine z_ge (tgt := 55) (X := ((i : Nat) : Int)) (Y := (35 : Int)) hE dX9_strike_26 (by decide) (nI_toInt (n := i) (by omega)) rfl (fun c_6 => ?_) (fun c_6 => ?_)
        · refine lv_aload_n hE.x hE.b dX9_strike_55 rfl (lv_at hl 1 rfl) ?_
          refine z_get (v := .ref (a 0)) hE hB inX9 0 rfl rfl 0 (by decide) q4_1 (fun _ h9 => h9) rfl dX9_strike_56 ?_
          refine lv_iconst (v := nI 1) hE.x hE.b dX9_strike_59 rfl ?_
          refine lv_dup2_11 hE.x hE.b dX9_strike_60 rfl rfl ?_
          refine z_iald (k := 1) (f := (B 0)) hE hB 1 rfl (by omega) (by decide) dX9_strike_61 ?_
          refine z_top (y := (nI C)) (by rw [hB0, updA_self, if_neg (by omega), nKeep_1]; exact hC) ?_
          refine lv_iconst (v := nI 1) hE.x hE.b dX9_strike_62 rfl ?_
          refine z_isubN hE (by omega) dX9_strike_63 ?_
          refine z_iast (k := 1) (f := (B 0)) (x := (nI (C - 1))) (ws' := mW g o a F L (updA B 0 (upd (B 0) 1 (nI (C - 1)))) ++ X) hE hB 1 rfl (by omega) (by decide) rfl dX9_strike_64 (fun H locs hB => ?_)
          refine lv_aload_n hE.x hE.b dX9_strike_65 rfl (lv_at hl 1 rfl) ?_
          refine z_qi hB (z_cV hE hB (c_X9_clauses l g o a F L (updA B 0 (upd (B 0) 1 (nI (C - 1)))) X (C - 1) (by rw [updA_self]; simp [upd])) q4_123 kX9_clauses ⟨rfl, rfl⟩ ⟨Nat.le_of_ble_eq_true rfl, Nat.le_of_ble_eq_true rfl⟩ 0 rfl rfl rfl hl.1 rfl (Nat.le_of_ble_eq_true rfl) dX9_strike_66 ⟨Nat.le_of_ble_eq_true rfl, Nat.le_of_ble_eq_true rfl⟩) (fun r_7 w_8 H locs hw hB => ?_)
          obtain ⟨hr9, hw9⟩ := hw
          have hr9 := hr9.symm
          subst hr9
          have hw9 := hw9.symm
          subst hw9
          exact z_iret (v := (nI (C - 1))) (ws := mW g o a F L (updA B 0 (upd (B 0) 1 (nI (C - 1)))) ++ X) hE hB hr (⟨by unfold strikeR; rw [c_3]; rfl, by unfold strikeA; rw [c_3, if_pos rfl, hB0, updA_self, updA_updA, rcl (show q < 2 ^ 31 by omega)]; rw [updA_eq (f' := nStrike (nKeep (A 0) U C) C q) (fun x => by simp only [nStrike, upd, nSt]; (repeat' split) <;> first | rfl | omega)]⟩) dX9_strike_69
        · refine lv_aload_n hE.x hE.b dX9_strike_29 rfl (lv_at hl 1 rfl) ?_
          refine z_get (v := .ref (a 0)) hE hB inX9 0 rfl rfl 0 (by decide) q4_1 (fun _ h9 => h9) rfl dX9_strike_30 ?_
          refine lv_bipush (v := (nI 46)) hE.x hE.b dX9_strike_33 rfl ?_
          refine lv_iload_n hE.x hE.b dX9_strike_35 rfl (lv_at hl 0 rfl) ?_
          refine z_iaddN hE dX9_strike_36 ?_
          refine lv_aload_n hE.x hE.b dX9_strike_37 rfl (lv_at hl 1 rfl) ?_
          refine z_get (v := .ref (a 0)) hE hB inX9 0 rfl rfl 0 (by decide) q4_1 (fun _ h9 => h9) rfl dX9_strike_38 ?_
          refine lv_bipush (v := (nI 46)) hE.x hE.b dX9_strike_41 rfl ?_
          refine lv_iload_n hE.x hE.b dX9_strike_43 rfl (lv_at hl 0 rfl) ?_
          refine z_iaddN hE dX9_strike_44 ?_
          refine lv_iconst (v := nI 5) hE.x hE.b dX9_strike_45 rfl ?_
          refine z_iaddN hE dX9_strike_46 ?_
          refine z_iald (k := ((46 + i) + 5)) (f := (B 0)) hE hB 1 rfl (by omega) (by decide) dX9_strike_47 ?_
          refine z_iast (k := (46 + i)) (f := (B 0)) (x := ((B 0) ((46 + i) + 5))) (ws' := mW g o a F L (updA B 0 (upd (B 0) (46 + i) ((B 0) ((46 + i) + 5)))) ++ X) hE hB 1 rfl (by omega) (by decide) rfl dX9_strike_48 (fun H locs hB => ?_)
          refine lv_iinc (v := (nI (i + 1))) (lv' := [(2, .int (nI (i + 1))), (0, .ref o), (1, .int (nI q))]) hE.x hE.b dX9_strike_49 hl (k := 0) rfl (nI_add _ _) (by decide) rfl (fun ls hl => ?_)
          refine lv_goto (tgt := 23) hE.x hE.b dX9_strike_52 (by decide) ?_
          exact ih23 (i + 1) (updA B 0 (upd (B 0) (46 + i) ((B 0) ((46 + i) + 5)))) _ _ _ (by omega) (by omega) (updA_step hB0 (fun x => by rw [hB0, updA_self]; simp only [upd]; (repeat' split) <;> first | rfl | omega | (congr 1; omega))) hB hl
    exact k23 (35 - (5 * q) + 1) (5 * q) (updA A 0 (nKeep (A 0) U C)) _ _ _ (Nat.lt_succ_self _) (by omega) (updA_eq fun x => by rw [if_neg (by omega)]) hB hl
  · refine lv_aload_n hE.x hE.b dX9_strike_8 rfl (lv_at hl 0 rfl) ?_
    refine lv_bipush (v := (-2)) hE.x hE.b dX9_strike_9 rfl ?_
    refine z_qi hB (z_cV hE hB (c_X9_bad l g o a F L A X (-2)) q4_91 kX9_bad ⟨rfl, rfl⟩ ⟨Nat.le_of_ble_eq_true rfl, Nat.le_of_ble_eq_true rfl⟩ 0 rfl rfl rfl hl.1 rfl (Nat.le_of_ble_eq_true rfl) dX9_strike_11 ⟨Nat.le_of_ble_eq_true rfl, Nat.le_of_ble_eq_true rfl⟩) (fun r_9 w_10 H locs hw hB => ?_)
    obtain ⟨hr9, hw9⟩ := hw
    have hr9 := hr9.symm
    subst hr9
    have hw9 := hw9.symm
    subst hw9
    exact z_iret (v := (-2)) (ws := mW g o a F L (bump 0 A) ++ X) hE hB hr (⟨by unfold strikeR; rw [c_3]; rfl, by unfold strikeA; rw [c_3]; rfl⟩) dX9_strike_14

set_option maxHeartbeats 4000000 in
set_option maxRecDepth 100000 in
theorem c_X9_undo (l : Launch) (g : zG) (o : Nat) (a : Nat → Nat) (F : Nat → Int32) (L : Nat → Int64) (A : Nat → Nat → Int32) (X : va_W) (T : Nat) (C : Nat) (V : Nat) (U : Nat) (hn : nOK (A 0) T C V U) : Met l yX9_undo (Cond.code yX9_undo cX9_undo 3 (some .int) :: TBL) { frames := 1, cells := 0, slots := 0, locals := 20 } (zPc [.ref o] g (mW g o a F L A ++ X)) (zQi g (fun r ws => r = (undoR (A 0) U) ∧ ws = mW g o a F L (undoA A U) ++ X)) 0 0 (zA (gz g)) := by
  refine z_start (by decide +kernel) rfl (Nat.le_of_ble_eq_true rfl) ?_
  intro p e s m args below meth c ls hE hr hnm hB hl
  have hl : lv_has ls 3 [(0, .ref o)] := hl
  revert hB
  generalize s.heap = H
  generalize ([] : List Loc) = locs
  intro hB
  have hT := hn.T
  have hT6 := hn.T6
  have hC := hn.C
  have hC8 := hn.C8
  have hV := hn.V
  have hV8 := hn.V8
  have hU := hn.U
  have hU8 := hn.U8
  have hP := hn.P (U - 1)
  refine lv_aload_n hE.x hE.b dX9_undo_0 rfl (lv_at hl 0 rfl) ?_
  refine z_get (v := .ref (a 0)) hE hB inX9 0 rfl rfl 0 (by decide) q4_1 (fun _ h9 => h9) rfl dX9_undo_1 ?_
  refine lv_iconst (v := nI 3) hE.x hE.b dX9_undo_4 rfl ?_
  refine z_iald (k := 3) (f := (A 0)) hE hB 1 rfl (by omega) (by decide) dX9_undo_5 ?_
  refine z_top (y := (nI U)) hU ?_
  refine z_ne0 (tgt := 14) (X := ((U : Nat) : Int)) hE dX9_undo_6 (by decide) (nI_toInt (n := U) (by omega)) (fun c_1 => ?_) (fun c_1 => ?_)
  · obtain ⟨c1, hc1, ec1⟩ := hP (by omega)
    refine lv_aload_n hE.x hE.b dX9_undo_14 rfl (lv_at hl 0 rfl) ?_
    refine z_get (v := .ref (a 0)) hE hB inX9 0 rfl rfl 0 (by decide) q4_1 (fun _ h9 => h9) rfl dX9_undo_15 ?_
    refine lv_iconst (v := nI 3) hE.x hE.b dX9_undo_18 rfl ?_
    refine lv_dup2_11 hE.x hE.b dX9_undo_19 rfl rfl ?_
    refine z_iald (k := 3) (f := (A 0)) hE hB 1 rfl (by omega) (by decide) dX9_undo_20 ?_
    refine z_top (y := (nI U)) hU ?_
    refine lv_iconst (v := nI 1) hE.x hE.b dX9_undo_21 rfl ?_
    refine z_isubN hE (by omega) dX9_undo_22 ?_
    refine z_iast (k := 3) (f := (A 0)) (x := (nI (U - 1))) (ws' := mW g o a F L (updA A 0 (upd (A 0) 3 (nI (U - 1)))) ++ X) hE hB 1 rfl (by omega) (by decide) rfl dX9_undo_23 (fun H locs hB => ?_)
    refine lv_bipush (v := (nI 126)) hE.x hE.b dX9_undo_24 rfl ?_
    refine lv_bipush (v := (nI 41)) hE.x hE.b dX9_undo_26 rfl ?_
    refine lv_aload_n hE.x hE.b dX9_undo_28 rfl (lv_at hl 0 rfl) ?_
    refine z_get (v := .ref (a 0)) hE hB inX9 0 rfl rfl 0 (by decide) q4_1 (fun _ h9 => h9) rfl dX9_undo_29 ?_
    refine lv_iconst (v := nI 3) hE.x hE.b dX9_undo_32 rfl ?_
    refine z_iald (k := 3) (f := (upd (A 0) 3 (nI (U - 1)))) hE hB 1 rfl (by omega) (by decide) dX9_undo_33 ?_
    refine z_top (y := (nI (U - 1))) (by simp [upd]) ?_
    refine z_imulN hE dX9_undo_34 ?_
    refine z_iaddN hE dX9_undo_35 ?_
    refine lv_istore_n (lv' := [(1, .int (nI (126 + (41 * (U - 1))))), (0, .ref o)]) hE.x hE.b dX9_undo_36 rfl hl (by decide) rfl (fun ls hl => ?_)
    refine lv_iconst (v := nI 0) hE.x hE.b dX9_undo_37 rfl ?_
    refine lv_istore_n (lv' := [(2, .int (nI 0)), (1, .int (nI (126 + (41 * (U - 1))))), (0, .ref o)]) hE.x hE.b dX9_undo_38 rfl hl (by decide) rfl (fun ls hl => ?_)
    have k39 : ∀ (fu : Nat) (i : Nat) (B : Nat → Nat → Int32) (H : Heap) (locs : List Loc) (ls : Array Slot), 40 - i < fu → (i ≤ 40) → (B = updA A 0 (fun x => if 46 ≤ x ∧ x < 46 + i then A 0 (126 + 41 * (U - 1) + (x - 46)) else if x = 3 then nI (U - 1) else A 0 x)) → zB g s (mW g o a F L B ++ X) H locs → lv_has ls 3 [(2, .int (nI i)), (1, .int (nI (126 + (41 * (U - 1))))), (0, .ref o)] → W p l e { frames := 1, cells := 0, slots := 0, locals := 20 } s m args below meth c H locs 0 0 (MQ below (zQi g (fun r ws => r = (undoR (A 0) U) ∧ ws = mW g o a F L (undoA A U) ++ X)) args s 0 0 (zA (gz g))) (F0 m 39 ls []) := by
      intro fu
      induction fu with
      | zero => intro i B H locs ls hfu hi hB0 hB hl; exact absurd hfu (Nat.not_lt_zero _)
      | succ fu ih39 =>
        intro i B H locs ls hfu hi hB0 hB hl
        refine lv_iload_n hE.x hE.b dX9_undo_39 rfl (lv_at hl 0 rfl) ?_
        refine lv_bipush (v := (nI 40)) hE.x hE.b dX9_undo_40 rfl ?_
        refine z_ge (tgt := 68) (X := ((i : Nat) : Int)) (Y := (40 : Int)) hE dX9_undo_42 (by decide) (nI_toInt (n := i) (by omega)) rfl (fun c_2 => ?_) (fun c_2 => ?_)
        · refine lv_aload_n hE.x hE.b dX9_undo_68 rfl (lv_at hl 2 rfl) ?_
          refine z_get (v := .ref (a 0)) hE hB inX9 0 rfl rfl 0 (by decide) q4_1 (fun _ h9 => h9) rfl dX9_undo_69 ?_
          refine lv_iconst (v := nI 1) hE.x hE.b dX9_undo_72 rfl ?_
          refine lv_aload_n hE.x hE.b dX9_undo_73 rfl (lv_at hl 2 rfl) ?_
          refine z_get (v := .ref (a 0)) hE hB inX9 0 rfl rfl 0 (by decide) q4_1 (fun _ h9 => h9) rfl dX9_undo_74 ?_
          refine lv_iload_n hE.x hE.b dX9_undo_77 rfl (lv_at hl 1 rfl) ?_
          refine lv_bipush (v := (nI 40)) hE.x hE.b dX9_undo_78 rfl ?_
          refine z_iaddN hE dX9_undo_80 ?_
          refine z_iald (k := ((126 + (41 * (U - 1))) + 40)) (f := (B 0)) hE hB 1 rfl (by omega) (by decide) dX9_undo_81 ?_
          refine z_top (y := (nI c1)) (by rw [hB0, updA_self, if_neg (by omega), if_neg (by omega)]; exact ec1) ?_
          refine z_iast (k := 1) (f := (B 0)) (x := (nI c1)) (ws' := mW g o a F L (updA B 0 (upd (B 0) 1 (nI c1))) ++ X) hE hB 1 rfl (by omega) (by decide) rfl dX9_undo_82 (fun H locs hB => ?_)
          refine lv_aload_n hE.x hE.b dX9_undo_83 rfl (lv_at hl 2 rfl) ?_
          refine z_qi hB (z_cV hE hB (c_X9_clauses l g o a F L (updA B 0 (upd (B 0) 1 (nI c1))) X c1 (by rw [updA_self]; simp [upd])) q4_123 kX9_clauses ⟨rfl, rfl⟩ ⟨Nat.le_of_ble_eq_true rfl, Nat.le_of_ble_eq_true rfl⟩ 0 rfl rfl rfl hl.1 rfl (Nat.le_of_ble_eq_true rfl) dX9_undo_84 ⟨Nat.le_of_ble_eq_true rfl, Nat.le_of_ble_eq_true rfl⟩) (fun r_3 w_4 H locs hw hB => ?_)
          obtain ⟨hr9, hw9⟩ := hw
          have hr9 := hr9.symm
          subst hr9
          have hw9 := hw9.symm
          subst hw9
          exact z_iret (v := (nI c1)) (ws := mW g o a F L (updA B 0 (upd (B 0) 1 (nI c1))) ++ X) hE hB hr (⟨by unfold undoR; rw [if_neg (by omega)]; exact ec1.symm, by unfold undoA; rw [if_neg (by omega), hB0, updA_self, updA_updA]; rw [updA_eq (f' := nUndo (A 0) U) (fun x => by simp only [nUndo, upd, nBk]; rw [ec1]; (repeat' split) <;> first | rfl | omega)]⟩) dX9_undo_87
        · refine lv_aload_n hE.x hE.b dX9_undo_45 rfl (lv_at hl 2 rfl) ?_
          refine z_get (v := .ref (a 0)) hE hB inX9 0 rfl rfl 0 (by decide) q4_1 (fun _ h9 => h9) rfl dX9_undo_46 ?_
          refine lv_bipush (v := (nI 46)) hE.x hE.b dX9_undo_49 rfl ?_
          refine lv_iload_n hE.x hE.b dX9_undo_51 rfl (lv_at hl 0 rfl) ?_
          refine z_iaddN hE dX9_undo_52 ?_
          refine lv_aload_n hE.x hE.b dX9_undo_53 rfl (lv_at hl 2 rfl) ?_
          refine z_get (v := .ref (a 0)) hE hB inX9 0 rfl rfl 0 (by decide) q4_1 (fun _ h9 => h9) rfl dX9_undo_54 ?_
          refine lv_iload_n hE.x hE.b dX9_undo_57 rfl (lv_at hl 1 rfl) ?_
          refine lv_iload_n hE.x hE.b dX9_undo_58 rfl (lv_at hl 0 rfl) ?_
          refine z_iaddN hE dX9_undo_59 ?_
          refine z_iald (k := ((126 + (41 * (U - 1))) + i)) (f := (B 0)) hE hB 1 rfl (by omega) (by decide) dX9_undo_60 ?_
          refine z_iast (k := (46 + i)) (f := (B 0)) (x := ((B 0) ((126 + (41 * (U - 1))) + i))) (ws' := mW g o a F L (updA B 0 (upd (B 0) (46 + i) ((B 0) ((126 + (41 * (U - 1))) + i)))) ++ X) hE hB 1 rfl (by omega) (by decide) rfl dX9_undo_61 (fun H locs hB => ?_)
          refine lv_iinc (v := (nI (i + 1))) (lv' := [(2, .int (nI (i + 1))), (1, .int (nI (126 + (41 * (U - 1))))), (0, .ref o)]) hE.x hE.b dX9_undo_62 hl (k := 0) rfl (nI_add _ _) (by decide) rfl (fun ls hl => ?_)
          refine lv_goto (tgt := 39) hE.x hE.b dX9_undo_65 (by decide) ?_
          exact ih39 (i + 1) (updA B 0 (upd (B 0) (46 + i) ((B 0) ((126 + (41 * (U - 1))) + i)))) _ _ _ (by omega) (by omega) (updA_step hB0 fun x => by rw [hB0, updA_self]; simp only [upd]; (repeat' split) <;> first | rfl | omega | (congr 1; omega)) hB hl
    exact k39 (40 - 0 + 1) 0 (updA A 0 (upd (A 0) 3 (nI (U - 1)))) _ _ _ (Nat.lt_succ_self _) (by omega) (updA_eq fun x => by simp only [upd]; (repeat' split) <;> first | rfl | omega) hB hl
  · refine lv_aload_n hE.x hE.b dX9_undo_9 rfl (lv_at hl 0 rfl) ?_
    refine z_qi hB (z_cV hE hB (c_X9_no l g o a F L A X) q4_146 kX9_no ⟨rfl, rfl⟩ ⟨Nat.le_of_ble_eq_true rfl, Nat.le_of_ble_eq_true rfl⟩ 0 rfl rfl rfl hl.1 rfl (Nat.le_of_ble_eq_true rfl) dX9_undo_10 ⟨Nat.le_of_ble_eq_true rfl, Nat.le_of_ble_eq_true rfl⟩) (fun r_5 w_6 H locs hw hB => ?_)
    obtain ⟨hr9, hw9⟩ := hw
    have hr9 := hr9.symm
    subst hr9
    have hw9 := hw9.symm
    subst hw9
    exact z_iret (v := (-3)) (ws := mW g o a F L (bump 1 A) ++ X) hE hB hr (⟨by unfold undoR; rw [if_pos (by omega)], by unfold undoA; rw [if_pos (by omega)]⟩) dX9_undo_13

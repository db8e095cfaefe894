theorem dX8_within_0 : decode cX8_within 0 = .ok (.iload_n 0, 1) := by decide +kernel
theorem dX8_within_1 : decode cX8_within 1 = .ok (.iload_n 1, 1) := by decide +kernel
theorem dX8_within_2 : decode cX8_within 2 = .ok (.if_icmp .lt 12, 3) := by decide +kernel
theorem dX8_within_5 : decode cX8_within 5 = .ok (.iload_n 0, 1) := by decide +kernel
theorem dX8_within_6 : decode cX8_within 6 = .ok (.iload_n 2, 1) := by decide +kernel
theorem dX8_within_7 : decode cX8_within 7 = .ok (.if_icmp .gt 7, 3) := by decide +kernel
theorem dX8_within_10 : decode cX8_within 10 = .ok (.iconst 1, 1) := by decide +kernel
theorem dX8_within_11 : decode cX8_within 11 = .ok (.goto 4, 3) := by decide +kernel
theorem dX8_within_14 : decode cX8_within 14 = .ok (.iconst 0, 1) := by decide +kernel
theorem dX8_within_15 : decode cX8_within 15 = .ok (.ireturn, 1) := by decide +kernel
theorem dX8_asker_0 : decode cX8_asker 0 = .ok (.iconst 2, 1) := by decide +kernel
theorem dX8_asker_1 : decode cX8_asker 1 = .ok (.iload_n 0, 1) := by decide +kernel
theorem dX8_asker_2 : decode cX8_asker 2 = .ok (.imul, 1) := by decide +kernel
theorem dX8_asker_3 : decode cX8_asker 3 = .ok (.iload_n 1, 1) := by decide +kernel
theorem dX8_asker_4 : decode cX8_asker 4 = .ok (.iadd, 1) := by decide +kernel
theorem dX8_asker_5 : decode cX8_asker 5 = .ok (.ireturn, 1) := by decide +kernel
theorem dX8_firstOf_0 : decode cX8_firstOf 0 = .ok (.iconst 0, 1) := by decide +kernel
theorem dX8_firstOf_1 : decode cX8_firstOf 1 = .ok (.istore_n 1, 1) := by decide +kernel
theorem dX8_firstOf_2 : decode cX8_firstOf 2 = .ok (.iload_n 1, 1) := by decide +kernel
theorem dX8_firstOf_3 : decode cX8_firstOf 3 = .ok (.bipush 8, 2) := by decide +kernel
theorem dX8_firstOf_5 : decode cX8_firstOf 5 = .ok (.if_icmp .ge 19, 3) := by decide +kernel
theorem dX8_firstOf_8 : decode cX8_firstOf 8 = .ok (.iload_n 0, 1) := by decide +kernel
theorem dX8_firstOf_9 : decode cX8_firstOf 9 = .ok (.iload_n 1, 1) := by decide +kernel
theorem dX8_firstOf_10 : decode cX8_firstOf 10 = .ok (.ishr, 1) := by decide +kernel
theorem dX8_firstOf_11 : decode cX8_firstOf 11 = .ok (.iconst 1, 1) := by decide +kernel
theorem dX8_firstOf_12 : decode cX8_firstOf 12 = .ok (.iand, 1) := by decide +kernel
theorem dX8_firstOf_13 : decode cX8_firstOf 13 = .ok (.ifCond .eq 5, 3) := by decide +kernel
theorem dX8_firstOf_16 : decode cX8_firstOf 16 = .ok (.iload_n 1, 1) := by decide +kernel
theorem dX8_firstOf_17 : decode cX8_firstOf 17 = .ok (.ireturn, 1) := by decide +kernel
theorem dX8_firstOf_18 : decode cX8_firstOf 18 = .ok (.iinc 1 1, 3) := by decide +kernel
theorem dX8_firstOf_21 : decode cX8_firstOf 21 = .ok (.goto (-19), 3) := by decide +kernel
theorem dX8_firstOf_24 : decode cX8_firstOf 24 = .ok (.iconst (-1), 1) := by decide +kernel
theorem dX8_firstOf_25 : decode cX8_firstOf 25 = .ok (.ireturn, 1) := by decide +kernel
theorem dX8_lastOf_0 : decode cX8_lastOf 0 = .ok (.bipush 7, 2) := by decide +kernel
theorem dX8_lastOf_2 : decode cX8_lastOf 2 = .ok (.istore_n 1, 1) := by decide +kernel
theorem dX8_lastOf_3 : decode cX8_lastOf 3 = .ok (.iload_n 1, 1) := by decide +kernel
theorem dX8_lastOf_4 : decode cX8_lastOf 4 = .ok (.ifCond .lt 19, 3) := by decide +kernel
theorem dX8_lastOf_7 : decode cX8_lastOf 7 = .ok (.iload_n 0, 1) := by decide +kernel
theorem dX8_lastOf_8 : decode cX8_lastOf 8 = .ok (.iload_n 1, 1) := by decide +kernel
theorem dX8_lastOf_9 : decode cX8_lastOf 9 = .ok (.ishr, 1) := by decide +kernel
theorem dX8_lastOf_10 : decode cX8_lastOf 10 = .ok (.iconst 1, 1) := by decide +kernel
theorem dX8_lastOf_11 : decode cX8_lastOf 11 = .ok (.iand, 1) := by decide +kernel
theorem dX8_lastOf_12 : decode cX8_lastOf 12 = .ok (.ifCond .eq 5, 3) := by decide +kernel
theorem dX8_lastOf_15 : decode cX8_lastOf 15 = .ok (.iload_n 1, 1) := by decide +kernel
theorem dX8_lastOf_16 : decode cX8_lastOf 16 = .ok (.ireturn, 1) := by decide +kernel
theorem dX8_lastOf_17 : decode cX8_lastOf 17 = .ok (.iinc 1 (-1), 3) := by decide +kernel
theorem dX8_lastOf_20 : decode cX8_lastOf 20 = .ok (.goto (-17), 3) := by decide +kernel
theorem dX8_lastOf_23 : decode cX8_lastOf 23 = .ok (.iconst (-1), 1) := by decide +kernel
theorem dX8_lastOf_24 : decode cX8_lastOf 24 = .ok (.ireturn, 1) := by decide +kernel
theorem dJ6_bitCount_0f7a4_0 : decode cJ6_bitCount_0f7a4 0 = .ok (.iload_n 0, 1) := by decide +kernel
theorem dJ6_bitCount_0f7a4_1 : decode cJ6_bitCount_0f7a4 1 = .ok (.iload_n 0, 1) := by decide +kernel
theorem dJ6_bitCount_0f7a4_2 : decode cJ6_bitCount_0f7a4 2 = .ok (.iconst 1, 1) := by decide +kernel
theorem dJ6_bitCount_0f7a4_3 : decode cJ6_bitCount_0f7a4 3 = .ok (.iushr, 1) := by decide +kernel
theorem dJ6_bitCount_0f7a4_4 : decode cJ6_bitCount_0f7a4 4 = .ok (.ldc_w 265, 3) := by decide +kernel
theorem dJ6_bitCount_0f7a4_7 : decode cJ6_bitCount_0f7a4 7 = .ok (.iand, 1) := by decide +kernel
theorem dJ6_bitCount_0f7a4_8 : decode cJ6_bitCount_0f7a4 8 = .ok (.isub, 1) := by decide +kernel
theorem dJ6_bitCount_0f7a4_9 : decode cJ6_bitCount_0f7a4 9 = .ok (.istore_n 0, 1) := by decide +kernel
theorem dJ6_bitCount_0f7a4_10 : decode cJ6_bitCount_0f7a4 10 = .ok (.iload_n 0, 1) := by decide +kernel
theorem dJ6_bitCount_0f7a4_11 : decode cJ6_bitCount_0f7a4 11 = .ok (.ldc_w 266, 3) := by decide +kernel
theorem dJ6_bitCount_0f7a4_14 : decode cJ6_bitCount_0f7a4 14 = .ok (.iand, 1) := by decide +kernel
theorem dJ6_bitCount_0f7a4_15 : decode cJ6_bitCount_0f7a4 15 = .ok (.iload_n 0, 1) := by decide +kernel
theorem dJ6_bitCount_0f7a4_16 : decode cJ6_bitCount_0f7a4 16 = .ok (.iconst 2, 1) := by decide +kernel
theorem dJ6_bitCount_0f7a4_17 : decode cJ6_bitCount_0f7a4 17 = .ok (.iushr, 1) := by decide +kernel
theorem dJ6_bitCount_0f7a4_18 : decode cJ6_bitCount_0f7a4 18 = .ok (.ldc_w 266, 3) := by decide +kernel
theorem dJ6_bitCount_0f7a4_21 : decode cJ6_bitCount_0f7a4 21 = .ok (.iand, 1) := by decide +kernel
theorem dJ6_bitCount_0f7a4_22 : decode cJ6_bitCount_0f7a4 22 = .ok (.iadd, 1) := by decide +kernel
theorem dJ6_bitCount_0f7a4_23 : decode cJ6_bitCount_0f7a4 23 = .ok (.istore_n 0, 1) := by decide +kernel
theorem dJ6_bitCount_0f7a4_24 : decode cJ6_bitCount_0f7a4 24 = .ok (.iload_n 0, 1) := by decide +kernel
theorem dJ6_bitCount_0f7a4_25 : decode cJ6_bitCount_0f7a4 25 = .ok (.iload_n 0, 1) := by decide +kernel
theorem dJ6_bitCount_0f7a4_26 : decode cJ6_bitCount_0f7a4 26 = .ok (.iconst 4, 1) := by decide +kernel
theorem dJ6_bitCount_0f7a4_27 : decode cJ6_bitCount_0f7a4 27 = .ok (.iushr, 1) := by decide +kernel
theorem dJ6_bitCount_0f7a4_28 : decode cJ6_bitCount_0f7a4 28 = .ok (.iadd, 1) := by decide +kernel
theorem dJ6_bitCount_0f7a4_29 : decode cJ6_bitCount_0f7a4 29 = .ok (.ldc_w 267, 3) := by decide +kernel
theorem dJ6_bitCount_0f7a4_32 : decode cJ6_bitCount_0f7a4 32 = .ok (.iand, 1) := by decide +kernel
theorem dJ6_bitCount_0f7a4_33 : decode cJ6_bitCount_0f7a4 33 = .ok (.istore_n 0, 1) := by decide +kernel
theorem dJ6_bitCount_0f7a4_34 : decode cJ6_bitCount_0f7a4 34 = .ok (.iload_n 0, 1) := by decide +kernel
theorem dJ6_bitCount_0f7a4_35 : decode cJ6_bitCount_0f7a4 35 = .ok (.iload_n 0, 1) := by decide +kernel
theorem dJ6_bitCount_0f7a4_36 : decode cJ6_bitCount_0f7a4 36 = .ok (.bipush 8, 2) := by decide +kernel
theorem dJ6_bitCount_0f7a4_38 : decode cJ6_bitCount_0f7a4 38 = .ok (.iushr, 1) := by decide +kernel
theorem dJ6_bitCount_0f7a4_39 : decode cJ6_bitCount_0f7a4 39 = .ok (.iadd, 1) := by decide +kernel
theorem dJ6_bitCount_0f7a4_40 : decode cJ6_bitCount_0f7a4 40 = .ok (.istore_n 0, 1) := by decide +kernel
theorem dJ6_bitCount_0f7a4_41 : decode cJ6_bitCount_0f7a4 41 = .ok (.iload_n 0, 1) := by decide +kernel
theorem dJ6_bitCount_0f7a4_42 : decode cJ6_bitCount_0f7a4 42 = .ok (.iload_n 0, 1) := by decide +kernel
theorem dJ6_bitCount_0f7a4_43 : decode cJ6_bitCount_0f7a4 43 = .ok (.bipush 16, 2) := by decide +kernel
theorem dJ6_bitCount_0f7a4_45 : decode cJ6_bitCount_0f7a4 45 = .ok (.iushr, 1) := by decide +kernel
theorem dJ6_bitCount_0f7a4_46 : decode cJ6_bitCount_0f7a4 46 = .ok (.iadd, 1) := by decide +kernel
theorem dJ6_bitCount_0f7a4_47 : decode cJ6_bitCount_0f7a4 47 = .ok (.istore_n 0, 1) := by decide +kernel
theorem dJ6_bitCount_0f7a4_48 : decode cJ6_bitCount_0f7a4 48 = .ok (.iload_n 0, 1) := by decide +kernel
theorem dJ6_bitCount_0f7a4_49 : decode cJ6_bitCount_0f7a4 49 = .ok (.bipush 63, 2) := by decide +kernel
theorem dJ6_bitCount_0f7a4_51 : decode cJ6_bitCount_0f7a4 51 = .ok (.iand, 1) := by decide +kernel
theorem dJ6_bitCount_0f7a4_52 : decode cJ6_bitCount_0f7a4 52 = .ok (.ireturn, 1) := by decide +kernel
theorem dX8_deciding_0 : decode cX8_deciding 0 = .ok (.iload_n 1, 1) := by decide +kernel
theorem dX8_deciding_1 : decode cX8_deciding 1 = .ok (.iload_n 2, 1) := by decide +kernel
theorem dX8_deciding_2 : decode cX8_deciding 2 = .ok (.iand, 1) := by decide +kernel
theorem dX8_deciding_3 : decode cX8_deciding 3 = .ok (.istore_n 3, 1) := by decide +kernel
theorem dX8_deciding_4 : decode cX8_deciding 4 = .ok (.iload_n 1, 1) := by decide +kernel
theorem dX8_deciding_5 : decode cX8_deciding 5 = .ok (.iload_n 2, 1) := by decide +kernel
theorem dX8_deciding_6 : decode cX8_deciding 6 = .ok (.iconst (-1), 1) := by decide +kernel
theorem dX8_deciding_7 : decode cX8_deciding 7 = .ok (.ixor, 1) := by decide +kernel
theorem dX8_deciding_8 : decode cX8_deciding 8 = .ok (.iand, 1) := by decide +kernel
theorem dX8_deciding_9 : decode cX8_deciding 9 = .ok (.istore 4, 2) := by decide +kernel
theorem dX8_deciding_11 : decode cX8_deciding 11 = .ok (.iload_n 0, 1) := by decide +kernel
theorem dX8_deciding_12 : decode cX8_deciding 12 = .ok (.tableswitch 51 0 2 #[28, 33, 38], 28) := by decide +kernel
theorem dX8_deciding_40 : decode cX8_deciding 40 = .ok (.iload_n 1, 1) := by decide +kernel
theorem dX8_deciding_41 : decode cX8_deciding 41 = .ok (.invokestatic 255, 3) := by decide +kernel
theorem dX8_deciding_44 : decode cX8_deciding 44 = .ok (.ireturn, 1) := by decide +kernel
theorem dX8_deciding_45 : decode cX8_deciding 45 = .ok (.iload_n 1, 1) := by decide +kernel
theorem dX8_deciding_46 : decode cX8_deciding 46 = .ok (.invokestatic 258, 3) := by decide +kernel
theorem dX8_deciding_49 : decode cX8_deciding 49 = .ok (.ireturn, 1) := by decide +kernel
theorem dX8_deciding_50 : decode cX8_deciding 50 = .ok (.iload_n 3, 1) := by decide +kernel
theorem dX8_deciding_51 : decode cX8_deciding 51 = .ok (.ifCond .eq 7, 3) := by decide +kernel
theorem dX8_deciding_54 : decode cX8_deciding 54 = .ok (.iload_n 3, 1) := by decide +kernel
theorem dX8_deciding_55 : decode cX8_deciding 55 = .ok (.goto 4, 3) := by decide +kernel
theorem dX8_deciding_58 : decode cX8_deciding 58 = .ok (.iload_n 1, 1) := by decide +kernel
theorem dX8_deciding_59 : decode cX8_deciding 59 = .ok (.invokestatic 255, 3) := by decide +kernel
theorem dX8_deciding_62 : decode cX8_deciding 62 = .ok (.ireturn, 1) := by decide +kernel
theorem dX8_deciding_63 : decode cX8_deciding 63 = .ok (.iload_n 3, 1) := by decide +kernel
theorem dX8_deciding_64 : decode cX8_deciding 64 = .ok (.invokestatic 177, 3) := by decide +kernel
theorem dX8_deciding_67 : decode cX8_deciding 67 = .ok (.iload 4, 2) := by decide +kernel
theorem dX8_deciding_69 : decode cX8_deciding 69 = .ok (.invokestatic 177, 3) := by decide +kernel
theorem dX8_deciding_72 : decode cX8_deciding 72 = .ok (.if_icmp .le 7, 3) := by decide +kernel
theorem dX8_deciding_75 : decode cX8_deciding 75 = .ok (.iload_n 3, 1) := by decide +kernel
theorem dX8_deciding_76 : decode cX8_deciding 76 = .ok (.goto 5, 3) := by decide +kernel
theorem dX8_deciding_79 : decode cX8_deciding 79 = .ok (.iload 4, 2) := by decide +kernel
theorem dX8_deciding_81 : decode cX8_deciding 81 = .ok (.invokestatic 255, 3) := by decide +kernel
theorem dX8_deciding_84 : decode cX8_deciding 84 = .ok (.ireturn, 1) := by decide +kernel
theorem dX8_forbidden_0 : decode cX8_forbidden 0 = .ok (.iload_n 0, 1) := by decide +kernel
theorem dX8_forbidden_1 : decode cX8_forbidden 1 = .ok (.iload_n 1, 1) := by decide +kernel
theorem dX8_forbidden_2 : decode cX8_forbidden 2 = .ok (.iload_n 2, 1) := by decide +kernel
theorem dX8_forbidden_3 : decode cX8_forbidden 3 = .ok (.invokestatic 261, 3) := by decide +kernel
theorem dX8_forbidden_6 : decode cX8_forbidden 6 = .ok (.istore_n 3, 1) := by decide +kernel
theorem dX8_forbidden_7 : decode cX8_forbidden 7 = .ok (.iload_n 3, 1) := by decide +kernel
theorem dX8_forbidden_8 : decode cX8_forbidden 8 = .ok (.iconst (-1), 1) := by decide +kernel
theorem dX8_forbidden_9 : decode cX8_forbidden 9 = .ok (.if_icmp .eq 15, 3) := by decide +kernel
theorem dX8_forbidden_12 : decode cX8_forbidden 12 = .ok (.iload_n 2, 1) := by decide +kernel
theorem dX8_forbidden_13 : decode cX8_forbidden 13 = .ok (.iload_n 3, 1) := by decide +kernel
theorem dX8_forbidden_14 : decode cX8_forbidden 14 = .ok (.ishr, 1) := by decide +kernel
theorem dX8_forbidden_15 : decode cX8_forbidden 15 = .ok (.iconst 1, 1) := by decide +kernel
theorem dX8_forbidden_16 : decode cX8_forbidden 16 = .ok (.iand, 1) := by decide +kernel
theorem dX8_forbidden_17 : decode cX8_forbidden 17 = .ok (.ifCond .ne 7, 3) := by decide +kernel
theorem dX8_forbidden_20 : decode cX8_forbidden 20 = .ok (.iconst 1, 1) := by decide +kernel
theorem dX8_forbidden_21 : decode cX8_forbidden 21 = .ok (.goto 4, 3) := by decide +kernel
theorem dX8_forbidden_24 : decode cX8_forbidden 24 = .ok (.iconst 0, 1) := by decide +kernel
theorem dX8_forbidden_25 : decode cX8_forbidden 25 = .ok (.ireturn, 1) := by decide +kernel
theorem dX8_mixed_0 : decode cX8_mixed 0 = .ok (.ldc2_w 253, 3) := by decide +kernel
theorem dX8_mixed_3 : decode cX8_mixed 3 = .ok (.lload_n 0, 1) := by decide +kernel
theorem dX8_mixed_4 : decode cX8_mixed 4 = .ok (.lmul, 1) := by decide +kernel
theorem dX8_mixed_5 : decode cX8_mixed 5 = .ok (.lload_n 2, 1) := by decide +kernel
theorem dX8_mixed_6 : decode cX8_mixed 6 = .ok (.ladd, 1) := by decide +kernel
theorem dX8_mixed_7 : decode cX8_mixed 7 = .ok (.lreturn, 1) := by decide +kernel
theorem dX8_nextDrawn_0 : decode cX8_nextDrawn 0 = .ok (.lload_n 0, 1) := by decide +kernel
theorem dX8_nextDrawn_1 : decode cX8_nextDrawn 1 = .ok (.ldc2_w 245, 3) := by decide +kernel
theorem dX8_nextDrawn_4 : decode cX8_nextDrawn 4 = .ok (.lmul, 1) := by decide +kernel
theorem dX8_nextDrawn_5 : decode cX8_nextDrawn 5 = .ok (.ldc2_w 247, 3) := by decide +kernel
theorem dX8_nextDrawn_8 : decode cX8_nextDrawn 8 = .ok (.ladd, 1) := by decide +kernel
theorem dX8_nextDrawn_9 : decode cX8_nextDrawn 9 = .ok (.ldc2_w 249, 3) := by decide +kernel
theorem dX8_nextDrawn_12 : decode cX8_nextDrawn 12 = .ok (.lrem, 1) := by decide +kernel
theorem dX8_nextDrawn_13 : decode cX8_nextDrawn 13 = .ok (.lreturn, 1) := by decide +kernel
theorem dX8_leftOver_0 : decode cX8_leftOver 0 = .ok (.iload_n 2, 1) := by decide +kernel
theorem dX8_leftOver_1 : decode cX8_leftOver 1 = .ok (.ifCond .gt 7, 3) := by decide +kernel
theorem dX8_leftOver_4 : decode cX8_leftOver 4 = .ok (.iconst 0, 1) := by decide +kernel
theorem dX8_leftOver_5 : decode cX8_leftOver 5 = .ok (.goto 12, 3) := by decide +kernel
theorem dX8_leftOver_8 : decode cX8_leftOver 8 = .ok (.lload_n 0, 1) := by decide +kernel
theorem dX8_leftOver_9 : decode cX8_leftOver 9 = .ok (.ldc2_w 251, 3) := by decide +kernel
theorem dX8_leftOver_12 : decode cX8_leftOver 12 = .ok (.ldiv, 1) := by decide +kernel
theorem dX8_leftOver_13 : decode cX8_leftOver 13 = .ok (.iload_n 2, 1) := by decide +kernel
theorem dX8_leftOver_14 : decode cX8_leftOver 14 = .ok (.i2l, 1) := by decide +kernel
theorem dX8_leftOver_15 : decode cX8_leftOver 15 = .ok (.lrem, 1) := by decide +kernel
theorem dX8_leftOver_16 : decode cX8_leftOver 16 = .ok (.l2i, 1) := by decide +kernel
theorem dX8_leftOver_17 : decode cX8_leftOver 17 = .ok (.ireturn, 1) := by decide +kernel
theorem dX8_commonDivisor_0 : decode cX8_commonDivisor 0 = .ok (.iload_n 0, 1) := by decide +kernel
theorem dX8_commonDivisor_1 : decode cX8_commonDivisor 1 = .ok (.istore_n 2, 1) := by decide +kernel
theorem dX8_commonDivisor_2 : decode cX8_commonDivisor 2 = .ok (.iload_n 1, 1) := by decide +kernel
theorem dX8_commonDivisor_3 : decode cX8_commonDivisor 3 = .ok (.istore_n 3, 1) := by decide +kernel
theorem dX8_commonDivisor_4 : decode cX8_commonDivisor 4 = .ok (.iconst 0, 1) := by decide +kernel
theorem dX8_commonDivisor_5 : decode cX8_commonDivisor 5 = .ok (.istore 4, 2) := by decide +kernel
theorem dX8_commonDivisor_7 : decode cX8_commonDivisor 7 = .ok (.iload 4, 2) := by decide +kernel
theorem dX8_commonDivisor_9 : decode cX8_commonDivisor 9 = .ok (.bipush 64, 2) := by decide +kernel
theorem dX8_commonDivisor_11 : decode cX8_commonDivisor 11 = .ok (.if_icmp .ge 23, 3) := by decide +kernel
theorem dX8_commonDivisor_14 : decode cX8_commonDivisor 14 = .ok (.iload_n 3, 1) := by decide +kernel
theorem dX8_commonDivisor_15 : decode cX8_commonDivisor 15 = .ok (.ifCond .le 19, 3) := by decide +kernel
theorem dX8_commonDivisor_18 : decode cX8_commonDivisor 18 = .ok (.iload_n 2, 1) := by decide +kernel
theorem dX8_commonDivisor_19 : decode cX8_commonDivisor 19 = .ok (.iload_n 3, 1) := by decide +kernel
theorem dX8_commonDivisor_20 : decode cX8_commonDivisor 20 = .ok (.irem, 1) := by decide +kernel
theorem dX8_commonDivisor_21 : decode cX8_commonDivisor 21 = .ok (.istore 5, 2) := by decide +kernel
theorem dX8_commonDivisor_23 : decode cX8_commonDivisor 23 = .ok (.iload_n 3, 1) := by decide +kernel
theorem dX8_commonDivisor_24 : decode cX8_commonDivisor 24 = .ok (.istore_n 2, 1) := by decide +kernel
theorem dX8_commonDivisor_25 : decode cX8_commonDivisor 25 = .ok (.iload 5, 2) := by decide +kernel
theorem dX8_commonDivisor_27 : decode cX8_commonDivisor 27 = .ok (.istore_n 3, 1) := by decide +kernel
theorem dX8_commonDivisor_28 : decode cX8_commonDivisor 28 = .ok (.iinc 4 1, 3) := by decide +kernel
theorem dX8_commonDivisor_31 : decode cX8_commonDivisor 31 = .ok (.goto (-24), 3) := by decide +kernel
theorem dX8_commonDivisor_34 : decode cX8_commonDivisor 34 = .ok (.iload_n 2, 1) := by decide +kernel
theorem dX8_commonDivisor_35 : decode cX8_commonDivisor 35 = .ok (.ifCond .le 7, 3) := by decide +kernel
theorem dX8_commonDivisor_38 : decode cX8_commonDivisor 38 = .ok (.iload_n 2, 1) := by decide +kernel
theorem dX8_commonDivisor_39 : decode cX8_commonDivisor 39 = .ok (.goto 4, 3) := by decide +kernel
theorem dX8_commonDivisor_42 : decode cX8_commonDivisor 42 = .ok (.iconst 1, 1) := by decide +kernel
theorem dX8_commonDivisor_43 : decode cX8_commonDivisor 43 = .ok (.ireturn, 1) := by decide +kernel
theorem dX8_arePatient_0 : decode cX8_arePatient 0 = .ok (.iload_n 0, 1) := by decide +kernel
theorem dX8_arePatient_1 : decode cX8_arePatient 1 = .ok (.iconst 0, 1) := by decide +kernel
theorem dX8_arePatient_2 : decode cX8_arePatient 2 = .ok (.bipush 99, 2) := by decide +kernel
theorem dX8_arePatient_4 : decode cX8_arePatient 4 = .ok (.invokestatic 52, 3) := by decide +kernel
theorem dX8_arePatient_7 : decode cX8_arePatient 7 = .ok (.ifCond .eq 27, 3) := by decide +kernel
theorem dX8_arePatient_10 : decode cX8_arePatient 10 = .ok (.iload_n 1, 1) := by decide +kernel
theorem dX8_arePatient_11 : decode cX8_arePatient 11 = .ok (.iconst 0, 1) := by decide +kernel
theorem dX8_arePatient_12 : decode cX8_arePatient 12 = .ok (.bipush 99, 2) := by decide +kernel
theorem dX8_arePatient_14 : decode cX8_arePatient 14 = .ok (.invokestatic 52, 3) := by decide +kernel
theorem dX8_arePatient_17 : decode cX8_arePatient 17 = .ok (.ifCond .eq 17, 3) := by decide +kernel
theorem dX8_arePatient_20 : decode cX8_arePatient 20 = .ok (.iload_n 2, 1) := by decide +kernel
theorem dX8_arePatient_21 : decode cX8_arePatient 21 = .ok (.iconst 0, 1) := by decide +kernel
theorem dX8_arePatient_22 : decode cX8_arePatient 22 = .ok (.bipush 63, 2) := by decide +kernel
theorem dX8_arePatient_24 : decode cX8_arePatient 24 = .ok (.invokestatic 52, 3) := by decide +kernel
theorem dX8_arePatient_27 : decode cX8_arePatient 27 = .ok (.ifCond .eq 7, 3) := by decide +kernel
theorem dX8_arePatient_30 : decode cX8_arePatient 30 = .ok (.iconst 1, 1) := by decide +kernel
theorem dX8_arePatient_31 : decode cX8_arePatient 31 = .ok (.goto 4, 3) := by decide +kernel
theorem dX8_arePatient_34 : decode cX8_arePatient 34 = .ok (.iconst 0, 1) := by decide +kernel
theorem dX8_arePatient_35 : decode cX8_arePatient 35 = .ok (.ireturn, 1) := by decide +kernel
theorem dX4_hasTown_0 : decode cX4_hasTown 0 = .ok (.iload_n 1, 1) := by decide +kernel
theorem dX4_hasTown_1 : decode cX4_hasTown 1 = .ok (.ifCond .lt 15, 3) := by decide +kernel
theorem dX4_hasTown_4 : decode cX4_hasTown 4 = .ok (.iload_n 1, 1) := by decide +kernel
theorem dX4_hasTown_5 : decode cX4_hasTown 5 = .ok (.aload_n 0, 1) := by decide +kernel
theorem dX4_hasTown_6 : decode cX4_hasTown 6 = .ok (.getfield 39, 3) := by decide +kernel
theorem dX4_hasTown_9 : decode cX4_hasTown 9 = .ok (.if_icmp .ge 7, 3) := by decide +kernel
theorem dX4_hasTown_12 : decode cX4_hasTown 12 = .ok (.iconst 1, 1) := by decide +kernel
theorem dX4_hasTown_13 : decode cX4_hasTown 13 = .ok (.goto 4, 3) := by decide +kernel
theorem dX4_hasTown_16 : decode cX4_hasTown 16 = .ok (.iconst 0, 1) := by decide +kernel
theorem dX4_hasTown_17 : decode cX4_hasTown 17 = .ok (.ireturn, 1) := by decide +kernel
theorem dX4_addTown_0 : decode cX4_addTown 0 = .ok (.aload_n 0, 1) := by decide +kernel
theorem dX4_addTown_1 : decode cX4_addTown 1 = .ok (.getfield 9, 3) := by decide +kernel
theorem dX4_addTown_4 : decode cX4_addTown 4 = .ok (.aload_n 0, 1) := by decide +kernel
theorem dX4_addTown_5 : decode cX4_addTown 5 = .ok (.getfield 39, 3) := by decide +kernel
theorem dX4_addTown_8 : decode cX4_addTown 8 = .ok (.iload_n 1, 1) := by decide +kernel
theorem dX4_addTown_9 : decode cX4_addTown 9 = .ok (.iastore, 1) := by decide +kernel
theorem dX4_addTown_10 : decode cX4_addTown 10 = .ok (.aload_n 0, 1) := by decide +kernel
theorem dX4_addTown_11 : decode cX4_addTown 11 = .ok (.dup, 1) := by decide +kernel
theorem dX4_addTown_12 : decode cX4_addTown 12 = .ok (.getfield 39, 3) := by decide +kernel
theorem dX4_addTown_15 : decode cX4_addTown 15 = .ok (.iconst 1, 1) := by decide +kernel
theorem dX4_addTown_16 : decode cX4_addTown 16 = .ok (.iadd, 1) := by decide +kernel
theorem dX4_addTown_17 : decode cX4_addTown 17 = .ok (.putfield 39, 3) := by decide +kernel
theorem dX4_addTown_20 : decode cX4_addTown 20 = .ok (.return_, 1) := by decide +kernel
theorem dX4_roadDays_0 : decode cX4_roadDays 0 = .ok (.aload_n 0, 1) := by decide +kernel
theorem dX4_roadDays_1 : decode cX4_roadDays 1 = .ok (.getfield 15, 3) := by decide +kernel
theorem dX4_roadDays_4 : decode cX4_roadDays 4 = .ok (.bipush 6, 2) := by decide +kernel
theorem dX4_roadDays_6 : decode cX4_roadDays 6 = .ok (.iload_n 1, 1) := by decide +kernel
theorem dX4_roadDays_7 : decode cX4_roadDays 7 = .ok (.imul, 1) := by decide +kernel
theorem dX4_roadDays_8 : decode cX4_roadDays 8 = .ok (.iload_n 2, 1) := by decide +kernel
theorem dX4_roadDays_9 : decode cX4_roadDays 9 = .ok (.iadd, 1) := by decide +kernel
theorem dX4_roadDays_10 : decode cX4_roadDays 10 = .ok (.iaload, 1) := by decide +kernel
theorem dX4_roadDays_11 : decode cX4_roadDays 11 = .ok (.ireturn, 1) := by decide +kernel
theorem dX4_setRoad_0 : decode cX4_setRoad 0 = .ok (.aload_n 0, 1) := by decide +kernel
theorem dX4_setRoad_1 : decode cX4_setRoad 1 = .ok (.getfield 15, 3) := by decide +kernel
theorem dX4_setRoad_4 : decode cX4_setRoad 4 = .ok (.bipush 6, 2) := by decide +kernel
theorem dX4_setRoad_6 : decode cX4_setRoad 6 = .ok (.iload_n 1, 1) := by decide +kernel
theorem dX4_setRoad_7 : decode cX4_setRoad 7 = .ok (.imul, 1) := by decide +kernel
theorem dX4_setRoad_8 : decode cX4_setRoad 8 = .ok (.iload_n 2, 1) := by decide +kernel
theorem dX4_setRoad_9 : decode cX4_setRoad 9 = .ok (.iadd, 1) := by decide +kernel
theorem dX4_setRoad_10 : decode cX4_setRoad 10 = .ok (.iload_n 3, 1) := by decide +kernel
theorem dX4_setRoad_11 : decode cX4_setRoad 11 = .ok (.iastore, 1) := by decide +kernel
theorem dX4_setRoad_12 : decode cX4_setRoad 12 = .ok (.aload_n 0, 1) := by decide +kernel
theorem dX4_setRoad_13 : decode cX4_setRoad 13 = .ok (.getfield 15, 3) := by decide +kernel
theorem dX4_setRoad_16 : decode cX4_setRoad 16 = .ok (.bipush 6, 2) := by decide +kernel
theorem dX4_setRoad_18 : decode cX4_setRoad 18 = .ok (.iload_n 2, 1) := by decide +kernel
theorem dX4_setRoad_19 : decode cX4_setRoad 19 = .ok (.imul, 1) := by decide +kernel
theorem dX4_setRoad_20 : decode cX4_setRoad 20 = .ok (.iload_n 1, 1) := by decide +kernel
theorem dX4_setRoad_21 : decode cX4_setRoad 21 = .ok (.iadd, 1) := by decide +kernel
theorem dX4_setRoad_22 : decode cX4_setRoad 22 = .ok (.iload_n 3, 1) := by decide +kernel
theorem dX4_setRoad_23 : decode cX4_setRoad 23 = .ok (.iastore, 1) := by decide +kernel
theorem dX4_setRoad_24 : decode cX4_setRoad 24 = .ok (.return_, 1) := by decide +kernel
theorem dX4_addClause_0 : decode cX4_addClause 0 = .ok (.aload_n 0, 1) := by decide +kernel
theorem dX4_addClause_1 : decode cX4_addClause 1 = .ok (.getfield 20, 3) := by decide +kernel
theorem dX4_addClause_4 : decode cX4_addClause 4 = .ok (.aload_n 0, 1) := by decide +kernel
theorem dX4_addClause_5 : decode cX4_addClause 5 = .ok (.getfield 43, 3) := by decide +kernel
theorem dX4_addClause_8 : decode cX4_addClause 8 = .ok (.aload_n 1, 1) := by decide +kernel
theorem dX4_addClause_9 : decode cX4_addClause 9 = .ok (.aastore, 1) := by decide +kernel
theorem dX4_addClause_10 : decode cX4_addClause 10 = .ok (.aload_n 0, 1) := by decide +kernel
theorem dX4_addClause_11 : decode cX4_addClause 11 = .ok (.dup, 1) := by decide +kernel
theorem dX4_addClause_12 : decode cX4_addClause 12 = .ok (.getfield 43, 3) := by decide +kernel
theorem dX4_addClause_15 : decode cX4_addClause 15 = .ok (.iconst 1, 1) := by decide +kernel
theorem dX4_addClause_16 : decode cX4_addClause 16 = .ok (.iadd, 1) := by decide +kernel
theorem dX4_addClause_17 : decode cX4_addClause 17 = .ok (.putfield 43, 3) := by decide +kernel
theorem dX4_addClause_20 : decode cX4_addClause 20 = .ok (.return_, 1) := by decide +kernel
theorem dX4_mixedClause_0 : decode cX4_mixedClause 0 = .ok (.aload_n 2, 1) := by decide +kernel
theorem dX4_mixedClause_1 : decode cX4_mixedClause 1 = .ok (.ifnonnull 5, 3) := by decide +kernel
theorem dX4_mixedClause_4 : decode cX4_mixedClause 4 = .ok (.lload_n 0, 1) := by decide +kernel
theorem dX4_mixedClause_5 : decode cX4_mixedClause 5 = .ok (.lreturn, 1) := by decide +kernel
theorem dX4_mixedClause_6 : decode cX4_mixedClause 6 = .ok (.lload_n 0, 1) := by decide +kernel
theorem dX4_mixedClause_7 : decode cX4_mixedClause 7 = .ok (.aload_n 2, 1) := by decide +kernel
theorem dX4_mixedClause_8 : decode cX4_mixedClause 8 = .ok (.getfield 127, 3) := by decide +kernel
theorem dX4_mixedClause_11 : decode cX4_mixedClause 11 = .ok (.i2l, 1) := by decide +kernel
theorem dX4_mixedClause_12 : decode cX4_mixedClause 12 = .ok (.invokestatic 119, 3) := by decide +kernel
theorem dX4_mixedClause_15 : decode cX4_mixedClause 15 = .ok (.lstore_n 3, 1) := by decide +kernel
theorem dX4_mixedClause_16 : decode cX4_mixedClause 16 = .ok (.lload_n 3, 1) := by decide +kernel
theorem dX4_mixedClause_17 : decode cX4_mixedClause 17 = .ok (.aload_n 2, 1) := by decide +kernel
theorem dX4_mixedClause_18 : decode cX4_mixedClause 18 = .ok (.getfield 77, 3) := by decide +kernel
theorem dX4_mixedClause_21 : decode cX4_mixedClause 21 = .ok (.i2l, 1) := by decide +kernel
theorem dX4_mixedClause_22 : decode cX4_mixedClause 22 = .ok (.invokestatic 119, 3) := by decide +kernel
theorem dX4_mixedClause_25 : decode cX4_mixedClause 25 = .ok (.lstore_n 3, 1) := by decide +kernel
theorem dX4_mixedClause_26 : decode cX4_mixedClause 26 = .ok (.lload_n 3, 1) := by decide +kernel
theorem dX4_mixedClause_27 : decode cX4_mixedClause 27 = .ok (.aload_n 2, 1) := by decide +kernel
theorem dX4_mixedClause_28 : decode cX4_mixedClause 28 = .ok (.getfield 80, 3) := by decide +kernel
theorem dX4_mixedClause_31 : decode cX4_mixedClause 31 = .ok (.i2l, 1) := by decide +kernel
theorem dX4_mixedClause_32 : decode cX4_mixedClause 32 = .ok (.invokestatic 119, 3) := by decide +kernel
theorem dX4_mixedClause_35 : decode cX4_mixedClause 35 = .ok (.lstore_n 3, 1) := by decide +kernel
theorem dX4_mixedClause_36 : decode cX4_mixedClause 36 = .ok (.lload_n 3, 1) := by decide +kernel
theorem dX4_mixedClause_37 : decode cX4_mixedClause 37 = .ok (.aload_n 2, 1) := by decide +kernel
theorem dX4_mixedClause_38 : decode cX4_mixedClause 38 = .ok (.getfield 130, 3) := by decide +kernel
theorem dX4_mixedClause_41 : decode cX4_mixedClause 41 = .ok (.i2l, 1) := by decide +kernel
theorem dX4_mixedClause_42 : decode cX4_mixedClause 42 = .ok (.invokestatic 119, 3) := by decide +kernel
theorem dX4_mixedClause_45 : decode cX4_mixedClause 45 = .ok (.lstore_n 3, 1) := by decide +kernel
theorem dX4_mixedClause_46 : decode cX4_mixedClause 46 = .ok (.lload_n 3, 1) := by decide +kernel
theorem dX4_mixedClause_47 : decode cX4_mixedClause 47 = .ok (.aload_n 2, 1) := by decide +kernel
theorem dX4_mixedClause_48 : decode cX4_mixedClause 48 = .ok (.getfield 133, 3) := by decide +kernel
theorem dX4_mixedClause_51 : decode cX4_mixedClause 51 = .ok (.i2l, 1) := by decide +kernel
theorem dX4_mixedClause_52 : decode cX4_mixedClause 52 = .ok (.invokestatic 119, 3) := by decide +kernel
theorem dX4_mixedClause_55 : decode cX4_mixedClause 55 = .ok (.lreturn, 1) := by decide +kernel
theorem kX8_within : zCS yX8_within cX8_within 3 (some .boolean) 3 := ⟨q1_124, q1_1, q1_125, by decide +kernel, by decide +kernel, by decide +kernel⟩
theorem kX8_asker : zCS yX8_asker cX8_asker 2 (some .int) 2 := ⟨q3_7, q1_1, q3_8, by decide +kernel, by decide +kernel, by decide +kernel⟩
theorem kX8_firstOf : zCS yX8_firstOf cX8_firstOf 2 (some .int) 1 := ⟨q3_53, q1_1, q3_54, by decide +kernel, by decide +kernel, by decide +kernel⟩
theorem kX8_lastOf : zCS yX8_lastOf cX8_lastOf 2 (some .int) 1 := ⟨q3_56, q1_1, q3_57, by decide +kernel, by decide +kernel, by decide +kernel⟩
theorem kJ6_bitCount_0f7a4 : zCS yJ6_bitCount_0f7a4 cJ6_bitCount_0f7a4 1 (some .int) 1 := ⟨q3_59, q1_16, q3_60, by decide +kernel, by decide +kernel, by decide +kernel⟩
theorem kX8_deciding : zCS yX8_deciding cX8_deciding 5 (some .int) 3 := ⟨q3_50, q1_1, q3_51, by decide +kernel, by decide +kernel, by decide +kernel⟩
theorem kX8_forbidden : zCS yX8_forbidden cX8_forbidden 4 (some .boolean) 3 := ⟨q3_69, q1_1, q3_70, by decide +kernel, by decide +kernel, by decide +kernel⟩
theorem kX8_mixed : zCS yX8_mixed cX8_mixed 4 (some .long) 2 := ⟨q3_224, q1_1, q3_225, by decide +kernel, by decide +kernel, by decide +kernel⟩
theorem kX8_nextDrawn : zCS yX8_nextDrawn cX8_nextDrawn 2 (some .long) 1 := ⟨q3_181, q1_1, q3_182, by decide +kernel, by decide +kernel, by decide +kernel⟩
theorem kX8_leftOver : zCS yX8_leftOver cX8_leftOver 3 (some .int) 2 := ⟨q3_187, q1_1, q3_188, by decide +kernel, by decide +kernel, by decide +kernel⟩
theorem kX8_commonDivisor : zCS yX8_commonDivisor cX8_commonDivisor 6 (some .int) 2 := ⟨q3_173, q1_1, q3_174, by decide +kernel, by decide +kernel, by decide +kernel⟩
theorem kX8_arePatient : zCS yX8_arePatient cX8_arePatient 3 (some .boolean) 3 := ⟨q3_113, q1_1, q3_114, by decide +kernel, by decide +kernel, by decide +kernel⟩
theorem kX4_hasTown : zCV yX4_hasTown RX4 cX4_hasTown 2 (some .boolean) 1 := ⟨q1_143, q1_144, q1_2, q1_145, rfl, by decide +kernel, by decide +kernel, by decide +kernel⟩
theorem kX4_addTown : zCV yX4_addTown RX4 cX4_addTown 2 none 1 := ⟨q1_135, q1_136, q1_2, q1_137, rfl, by decide +kernel, by decide +kernel, by decide +kernel⟩
theorem kX4_roadDays : zCV yX4_roadDays RX4 cX4_roadDays 3 (some .int) 2 := ⟨q1_147, q1_148, q1_2, q1_149, rfl, by decide +kernel, by decide +kernel, by decide +kernel⟩
theorem kX4_setRoad : zCV yX4_setRoad RX4 cX4_setRoad 4 none 3 := ⟨q1_151, q1_152, q1_2, q1_153, rfl, by decide +kernel, by decide +kernel, by decide +kernel⟩
theorem kX4_addClause : zCV yX4_addClause RX4 cX4_addClause 2 none 1 := ⟨q2_30, q2_31, q1_2, q2_32, rfl, by decide +kernel, by decide +kernel, by decide +kernel⟩
theorem kX4_mixedClause : zCS yX4_mixedClause cX4_mixedClause 5 (some .long) 2 := ⟨q3_233, q1_2, q3_234, by decide +kernel, by decide +kernel, by decide +kernel⟩
set_option maxHeartbeats 4000000 in
set_option maxRecDepth 100000 in
theorem c_X8_within (l : Launch) (g : zG) (v : Int32) (lo : Int32) (hi : Int32) (V : Int) (Lo : Int) (Hi : Int) (X : va_W) (hv : v.toInt = V) (hlo : lo.toInt = Lo) (hhi : hi.toInt = Hi) : Met l yX8_within (Cond.code yX8_within cX8_within 3 (some .boolean) :: TBL) { frames := 0, cells := 0, slots := 0, locals := 0 } (zPc [.int v, .int lo, .int hi] g (X)) (zQi g (fun r ws => r = bI (inZ Lo Hi V) ∧ ws = X)) 0 0 (zA (gz g)) := by
  refine z_start (by decide +kernel) rfl (Nat.le_of_ble_eq_true rfl) ?_
  intro p e s m args below meth c ls hE hr hnm hB hl
  have hl : lv_has ls 3 [(0, .int v), (1, .int lo), (2, .int hi)] := hl
  revert hB
  generalize s.heap = H
  generalize ([] : List Loc) = locs
  intro hB
  refine lv_iload_n hE.x hE.b dX8_within_0 rfl (lv_at hl 0 rfl) ?_
  refine lv_iload_n hE.x hE.b dX8_within_1 rfl (lv_at hl 1 rfl) ?_
  refine z_lt (tgt := 14) (X := V) (Y := Lo) hE dX8_within_2 (by decide) hv hlo (fun c_1 => ?_) (fun c_1 => ?_)
  · refine lv_iconst (v := nI 0) hE.x hE.b dX8_within_14 rfl ?_
    exact z_bret (b := false) (ws := X) hE hB hr (⟨bI_decF (by omega), rfl⟩) dX8_within_15
  · refine lv_iload_n hE.x hE.b dX8_within_5 rfl (lv_at hl 0 rfl) ?_
    refine lv_iload_n hE.x hE.b dX8_within_6 rfl (lv_at hl 2 rfl) ?_
    refine z_gt (tgt := 14) (X := V) (Y := Hi) hE dX8_within_7 (by decide) hv hhi (fun c_2 => ?_) (fun c_2 => ?_)
    · refine lv_iconst (v := nI 0) hE.x hE.b dX8_within_14 rfl ?_
      exact z_bret (b := false) (ws := X) hE hB hr (⟨bI_decF (by omega), rfl⟩) dX8_within_15
    · refine lv_iconst (v := nI 1) hE.x hE.b dX8_within_10 rfl ?_
      refine lv_goto (tgt := 15) hE.x hE.b dX8_within_11 (by decide) ?_
      exact z_bret (b := true) (ws := X) hE hB hr (⟨bI_decT (by omega), rfl⟩) dX8_within_15

set_option maxHeartbeats 4000000 in
set_option maxRecDepth 100000 in
theorem c_X8_asker (l : Launch) (g : zG) (y : Nat) (z : Nat) (X : va_W)  : Met l yX8_asker (Cond.code yX8_asker cX8_asker 2 (some .int) :: TBL) { frames := 0, cells := 0, slots := 0, locals := 0 } (zPc [.int (nI y), .int (nI z)] g (X)) (zQi g (fun r ws => r = nI (2 * y + z) ∧ ws = X)) 0 0 (zA (gz g)) := by
  refine z_start (by decide +kernel) rfl (Nat.le_of_ble_eq_true rfl) ?_
  intro p e s m args below meth c ls hE hr hnm hB hl
  have hl : lv_has ls 2 [(0, .int (nI y)), (1, .int (nI z))] := hl
  revert hB
  generalize s.heap = H
  generalize ([] : List Loc) = locs
  intro hB
  refine lv_iconst (v := nI 2) hE.x hE.b dX8_asker_0 rfl ?_
  refine lv_iload_n hE.x hE.b dX8_asker_1 rfl (lv_at hl 0 rfl) ?_
  refine z_imulN hE dX8_asker_2 ?_
  refine lv_iload_n hE.x hE.b dX8_asker_3 rfl (lv_at hl 1 rfl) ?_
  refine z_iaddN hE dX8_asker_4 ?_
  exact z_iret (v := (nI ((2 * y) + z))) (ws := X) hE hB hr (⟨rfl, rfl⟩) dX8_asker_5

set_option maxHeartbeats 4000000 in
set_option maxRecDepth 100000 in
theorem c_X8_firstOf (l : Launch) (g : zG) (b : Nat) (P : Nat → Bool) (C : Nat) (X : va_W) (hb : b = rdB P C) (hC : C ≤ 8) : Met l yX8_firstOf (Cond.code yX8_firstOf cX8_firstOf 2 (some .int) :: TBL) { frames := 0, cells := 0, slots := 0, locals := 0 } (zPc [.int (nI b)] g (X)) (zQi g (fun r ws => r = (oI (hF P C)) ∧ ws = X)) 0 0 (zA (gz g)) := by
  refine z_start (by decide +kernel) rfl (Nat.le_of_ble_eq_true rfl) ?_
  intro p e s m args below meth c ls hE hr hnm hB hl
  have hl : lv_has ls 2 [(0, .int (nI b))] := hl
  revert hB
  generalize s.heap = H
  generalize ([] : List Loc) = locs
  intro hB
  have hb8 : b < 256 := by rw [hb]; exact rdB_256 hC
  refine lv_iconst (v := nI 0) hE.x hE.b dX8_firstOf_0 rfl ?_
  refine lv_istore_n (lv' := [(1, .int (nI 0)), (0, .int (nI b))]) hE.x hE.b dX8_firstOf_1 rfl hl (by decide) rfl (fun ls hl => ?_)
  have k2 : ∀ (fu : Nat) (i : Nat) (H : Heap) (locs : List Loc) (ls : Array Slot), 8 - i < fu → (i ≤ 8) → (hF (fun c => decide (c < C) && P c) i = none) → zB g s (X) H locs → lv_has ls 2 [(1, .int (nI i)), (0, .int (nI b))] → W p l e { frames := 0, cells := 0, slots := 0, locals := 0 } s m args below meth c H locs 0 0 (MQ below (zQi g (fun r ws => r = (oI (hF P C)) ∧ ws = X)) args s 0 0 (zA (gz g))) (F0 m 2 ls []) := by
    intro fu
    induction fu with
    | zero => intro i H locs ls hfu hi hq hB hl; exact absurd hfu (Nat.not_lt_zero _)
    | succ fu ih2 =>
      intro i H locs ls hfu hi hq hB hl
      refine lv_iload_n hE.x hE.b dX8_firstOf_2 rfl (lv_at hl 0 rfl) ?_
      refine lv_bipush (v := (nI 8)) hE.x hE.b dX8_firstOf_3 rfl ?_
      refine z_ge (tgt := 24) (X := ((i : Nat) : Int)) (Y := (8 : Int)) hE dX8_firstOf_5 (by decide) (nI_toInt (n := i) (by omega)) rfl (fun c_1 => ?_) (fun c_1 => ?_)
      · refine lv_iconst (v := (-1)) hE.x hE.b dX8_firstOf_24 rfl ?_
        exact z_iret (v := (-1)) (ws := X) hE hB hr (⟨by rw [← hF_8 hC, show (8 : Nat) = i by omega, hq]; rfl, rfl⟩) dX8_firstOf_25
      · refine lv_iload_n hE.x hE.b dX8_firstOf_8 rfl (lv_at hl 1 rfl) ?_
        refine lv_iload_n hE.x hE.b dX8_firstOf_9 rfl (lv_at hl 0 rfl) ?_
        refine lv_ishr hE.x hE.b dX8_firstOf_10 ?_
        refine lv_iconst (v := nI 1) hE.x hE.b dX8_firstOf_11 rfl ?_
        refine lv_iand hE.x hE.b dX8_firstOf_12 ?_
        refine z_top (y := (nI (b / 2 ^ i % 2))) (bit_at hb8 (by omega)) ?_
        refine z_eq0 (tgt := 18) (X := (((b / 2 ^ i % 2) : Nat) : Int)) hE dX8_firstOf_13 (by decide) (nI_toInt (n := (b / 2 ^ i % 2)) (by omega)) (fun c_2 => ?_) (fun c_2 => ?_)
        · refine lv_iinc (v := (nI (i + 1))) (lv' := [(1, .int (nI (i + 1))), (0, .int (nI b))]) hE.x hE.b dX8_firstOf_18 hl (k := 0) rfl (nI_add _ _) (by decide) rfl (fun ls hl => ?_)
          refine lv_goto (tgt := 2) hE.x hE.b dX8_firstOf_21 (by decide) ?_
          exact ih2 (i + 1) _ _ _ (by omega) (by omega) (by rw [hF_f (bit_f hb c_2)]; exact hq) hB hl
        · refine lv_iload_n hE.x hE.b dX8_firstOf_16 rfl (lv_at hl 0 rfl) ?_
          exact z_iret (v := (nI i)) (ws := X) hE hB hr (⟨by rw [← hF_8 hC, hF_up (hF_n (bit_t hb c_2) hq) 8 (by omega)]; rfl, rfl⟩) dX8_firstOf_17
  exact k2 (8 - 0 + 1) 0 _ _ _ (Nat.lt_succ_self _) (by omega) rfl hB hl

set_option maxHeartbeats 4000000 in
set_option maxRecDepth 100000 in
theorem c_X8_lastOf (l : Launch) (g : zG) (b : Nat) (P : Nat → Bool) (C : Nat) (X : va_W) (hb : b = rdB P C) (hC : C ≤ 8) : Met l yX8_lastOf (Cond.code yX8_lastOf cX8_lastOf 2 (some .int) :: TBL) { frames := 0, cells := 0, slots := 0, locals := 0 } (zPc [.int (nI b)] g (X)) (zQi g (fun r ws => r = (oI (hL P C)) ∧ ws = X)) 0 0 (zA (gz g)) := by
  refine z_start (by decide +kernel) rfl (Nat.le_of_ble_eq_true rfl) ?_
  intro p e s m args below meth c ls hE hr hnm hB hl
  have hl : lv_has ls 2 [(0, .int (nI b))] := hl
  revert hB
  generalize s.heap = H
  generalize ([] : List Loc) = locs
  intro hB
  have hb8 : b < 256 := by rw [hb]; exact rdB_256 hC
  refine lv_bipush (v := (nI 7)) hE.x hE.b dX8_lastOf_0 rfl ?_
  refine lv_istore_n (lv' := [(1, .int (nI 7)), (0, .int (nI b))]) hE.x hE.b dX8_lastOf_2 rfl hl (by decide) rfl (fun ls hl => ?_)
  have k3 : ∀ (fu : Nat) (v : Int32) (k : Nat) (H : Heap) (locs : List Loc) (ls : Array Slot), k < fu → (k ≤ 8) → (v.toInt = (k : Int) - 1) → (∀ c, k ≤ c → c < 8 → (fun c => decide (c < C) && P c) c = false) → zB g s (X) H locs → lv_has ls 2 [(1, .int v), (0, .int (nI b))] → W p l e { frames := 0, cells := 0, slots := 0, locals := 0 } s m args below meth c H locs 0 0 (MQ below (zQi g (fun r ws => r = (oI (hL P C)) ∧ ws = X)) args s 0 0 (zA (gz g))) (F0 m 3 ls []) := by
    intro fu
    induction fu with
    | zero => intro v k H locs ls hfu hk hv hq hB hl; exact absurd hfu (Nat.not_lt_zero _)
    | succ fu ih3 =>
      intro v k H locs ls hfu hk hv hq hB hl
      refine lv_iload_n hE.x hE.b dX8_lastOf_3 rfl (lv_at hl 0 rfl) ?_
      refine z_lt0 (tgt := 23) (X := v.toInt) hE dX8_lastOf_4 (by decide) rfl (fun c_1 => ?_) (fun c_1 => ?_)
      · refine lv_iconst (v := (-1)) hE.x hE.b dX8_lastOf_23 rfl ?_
        exact z_iret (v := (-1)) (ws := X) hE hB hr (⟨by rw [← hL_8 hC, hL_top (k := 0) 8 (by omega) (by rw [show (0 : Nat) = k by omega]; exact hq)]; rfl, rfl⟩) dX8_lastOf_24
      · obtain ⟨j, hj, rfl⟩ := (show ∃ j, (j = k - 1) ∧ v = nI j from ⟨k - 1, rfl, Int32.toInt_inj.mp (by rw [nI_toInt (by omega)]; omega)⟩)
        refine lv_iload_n hE.x hE.b dX8_lastOf_7 rfl (lv_at hl 1 rfl) ?_
        have hj1 : ((nI j).toInt : Int) = j := nI_toInt (by omega)
        have hjk : j + 1 = k := by omega
        refine lv_iload_n hE.x hE.b dX8_lastOf_8 rfl (lv_at hl 0 rfl) ?_
        refine lv_ishr hE.x hE.b dX8_lastOf_9 ?_
        refine lv_iconst (v := nI 1) hE.x hE.b dX8_lastOf_10 rfl ?_
        refine lv_iand hE.x hE.b dX8_lastOf_11 ?_
        refine z_top (y := (nI (b / 2 ^ j % 2))) (bit_at hb8 (by omega)) ?_
        refine z_eq0 (tgt := 17) (X := (((b / 2 ^ j % 2) : Nat) : Int)) hE dX8_lastOf_12 (by decide) (nI_toInt (n := (b / 2 ^ j % 2)) (by omega)) (fun c_2 => ?_) (fun c_2 => ?_)
        · refine lv_iinc (v := ((nI j) + (-1))) (lv' := [(1, .int ((nI j) + (-1))), (0, .int (nI b))]) hE.x hE.b dX8_lastOf_17 hl (k := 0) rfl rfl (by decide) rfl (fun ls hl => ?_)
          refine lv_goto (tgt := 3) hE.x hE.b dX8_lastOf_20 (by decide) ?_
          exact ih3 ((nI j) + (-1)) j _ _ _ (by omega) (by omega) (dec_toInt (by omega)) (hL_step hq hjk (bit_f hb c_2)) hB hl
        · refine lv_iload_n hE.x hE.b dX8_lastOf_15 rfl (lv_at hl 0 rfl) ?_
          exact z_iret (v := (nI j)) (ws := X) hE hB hr (⟨by rw [← hL_8 hC, hL_top (k := j + 1) 8 (by omega) (by rw [hjk]; exact hq), hL_t (bit_t hb c_2)]; rfl, rfl⟩) dX8_lastOf_16
  exact k3 (8 + 1) (nI 7) 8 _ _ _ (Nat.lt_succ_self _) (by omega) rfl (fun c h9 h8 => absurd h8 (by omega)) hB hl

set_option maxHeartbeats 4000000 in
set_option maxRecDepth 100000 in
theorem c_J6_bitCount_0f7a4 (l : Launch) (g : zG) (b : Nat) (X : va_W) (hb : b < 256) : Met l yJ6_bitCount_0f7a4 (Cond.code yJ6_bitCount_0f7a4 cJ6_bitCount_0f7a4 1 (some .int) :: TBL) { frames := 0, cells := 0, slots := 0, locals := 0 } (zPc [.int (nI b)] g (X)) (zQi g (fun r ws => r = nI (pop b) ∧ ws = X)) 0 0 (zA (gz g)) := by
  refine z_start (by decide +kernel) rfl (Nat.le_of_ble_eq_true rfl) ?_
  intro p e s m args below meth c ls hE hr hnm hB hl
  have hl : lv_has ls 1 [(0, .int (nI b))] := hl
  revert hB
  generalize s.heap = H
  generalize ([] : List Loc) = locs
  intro hB
  refine lv_iload_n hE.x hE.b dJ6_bitCount_0f7a4_0 rfl (lv_at hl 0 rfl) ?_
  refine lv_iload_n hE.x hE.b dJ6_bitCount_0f7a4_1 rfl (lv_at hl 0 rfl) ?_
  refine lv_iconst (v := nI 1) hE.x hE.b dJ6_bitCount_0f7a4_2 rfl ?_
  refine lv_iushr hE.x hE.b dJ6_bitCount_0f7a4_3 rfl ?_
  refine lv_ldcw (v := (nI 1431655765)) hE.x hE.b hE.o (hE.t _ q3_61) dJ6_bitCount_0f7a4_4 ?_
  refine lv_iand hE.x hE.b dJ6_bitCount_0f7a4_7 ?_
  refine lv_isub hE.x hE.b dJ6_bitCount_0f7a4_8 ?_
  refine lv_istore_n (lv' := [(0, .int ((nI b) - ((((nI b).toUInt32 >>> ((nI 1).toUInt32 &&& Int32.toUInt32 31)).toInt32) &&& (nI 1431655765))))]) hE.x hE.b dJ6_bitCount_0f7a4_9 rfl hl (by decide) rfl (fun ls hl => ?_)
  refine lv_iload_n hE.x hE.b dJ6_bitCount_0f7a4_10 rfl (lv_at hl 0 rfl) ?_
  refine lv_ldcw (v := (nI 858993459)) hE.x hE.b hE.o (hE.t _ q3_62) dJ6_bitCount_0f7a4_11 ?_
  refine lv_iand hE.x hE.b dJ6_bitCount_0f7a4_14 ?_
  refine lv_iload_n hE.x hE.b dJ6_bitCount_0f7a4_15 rfl (lv_at hl 0 rfl) ?_
  refine lv_iconst (v := nI 2) hE.x hE.b dJ6_bitCount_0f7a4_16 rfl ?_
  refine lv_iushr hE.x hE.b dJ6_bitCount_0f7a4_17 rfl ?_
  refine lv_ldcw (v := (nI 858993459)) hE.x hE.b hE.o (hE.t _ q3_62) dJ6_bitCount_0f7a4_18 ?_
  refine lv_iand hE.x hE.b dJ6_bitCount_0f7a4_21 ?_
  refine lv_iadd hE.x hE.b dJ6_bitCount_0f7a4_22 ?_
  refine lv_istore_n (lv' := [(0, .int ((((nI b) - ((((nI b).toUInt32 >>> ((nI 1).toUInt32 &&& Int32.toUInt32 31)).toInt32) &&& (nI 1431655765))) &&& (nI 858993459)) + (((((nI b) - ((((nI b).toUInt32 >>> ((nI 1).toUInt32 &&& Int32.toUInt32 31)).toInt32) &&& (nI 1431655765))).toUInt32 >>> ((nI 2).toUInt32 &&& Int32.toUInt32 31)).toInt32) &&& (nI 858993459))))]) hE.x hE.b dJ6_bitCount_0f7a4_23 rfl hl (by decide) rfl (fun ls hl => ?_)
  refine lv_iload_n hE.x hE.b dJ6_bitCount_0f7a4_24 rfl (lv_at hl 0 rfl) ?_
  refine lv_iload_n hE.x hE.b dJ6_bitCount_0f7a4_25 rfl (lv_at hl 0 rfl) ?_
  refine lv_iconst (v := nI 4) hE.x hE.b dJ6_bitCount_0f7a4_26 rfl ?_
  refine lv_iushr hE.x hE.b dJ6_bitCount_0f7a4_27 rfl ?_
  refine lv_iadd hE.x hE.b dJ6_bitCount_0f7a4_28 ?_
  refine lv_ldcw (v := (nI 252645135)) hE.x hE.b hE.o (hE.t _ q3_63) dJ6_bitCount_0f7a4_29 ?_
  refine lv_iand hE.x hE.b dJ6_bitCount_0f7a4_32 ?_
  refine lv_istore_n (lv' := [(0, .int ((((((nI b) - ((((nI b).toUInt32 >>> ((nI 1).toUInt32 &&& Int32.toUInt32 31)).toInt32) &&& (nI 1431655765))) &&& (nI 858993459)) + (((((nI b) - ((((nI b).toUInt32 >>> ((nI 1).toUInt32 &&& Int32.toUInt32 31)).toInt32) &&& (nI 1431655765))).toUInt32 >>> ((nI 2).toUInt32 &&& Int32.toUInt32 31)).toInt32) &&& (nI 858993459))) + ((((((nI b) - ((((nI b).toUInt32 >>> ((nI 1).toUInt32 &&& Int32.toUInt32 31)).toInt32) &&& (nI 1431655765))) &&& (nI 858993459)) + (((((nI b) - ((((nI b).toUInt32 >>> ((nI 1).toUInt32 &&& Int32.toUInt32 31)).toInt32) &&& (nI 1431655765))).toUInt32 >>> ((nI 2).toUInt32 &&& Int32.toUInt32 31)).toInt32) &&& (nI 858993459))).toUInt32 >>> ((nI 4).toUInt32 &&& Int32.toUInt32 31)).toInt32)) &&& (nI 252645135)))]) hE.x hE.b dJ6_bitCount_0f7a4_33 rfl hl (by decide) rfl (fun ls hl => ?_)
  refine lv_iload_n hE.x hE.b dJ6_bitCount_0f7a4_34 rfl (lv_at hl 0 rfl) ?_
  refine lv_iload_n hE.x hE.b dJ6_bitCount_0f7a4_35 rfl (lv_at hl 0 rfl) ?_
  refine lv_bipush (v := (nI 8)) hE.x hE.b dJ6_bitCount_0f7a4_36 rfl ?_
  refine lv_iushr hE.x hE.b dJ6_bitCount_0f7a4_38 rfl ?_
  refine lv_iadd hE.x hE.b dJ6_bitCount_0f7a4_39 ?_
  refine lv_istore_n (lv' := [(0, .int (((((((nI b) - ((((nI b).toUInt32 >>> ((nI 1).toUInt32 &&& Int32.toUInt32 31)).toInt32) &&& (nI 1431655765))) &&& (nI 858993459)) + (((((nI b) - ((((nI b).toUInt32 >>> ((nI 1).toUInt32 &&& Int32.toUInt32 31)).toInt32) &&& (nI 1431655765))).toUInt32 >>> ((nI 2).toUInt32 &&& Int32.toUInt32 31)).toInt32) &&& (nI 858993459))) + ((((((nI b) - ((((nI b).toUInt32 >>> ((nI 1).toUInt32 &&& Int32.toUInt32 31)).toInt32) &&& (nI 1431655765))) &&& (nI 858993459)) + (((((nI b) - ((((nI b).toUInt32 >>> ((nI 1).toUInt32 &&& Int32.toUInt32 31)).toInt32) &&& (nI 1431655765))).toUInt32 >>> ((nI 2).toUInt32 &&& Int32.toUInt32 31)).toInt32) &&& (nI 858993459))).toUInt32 >>> ((nI 4).toUInt32 &&& Int32.toUInt32 31)).toInt32)) &&& (nI 252645135)) + ((((((((nI b) - ((((nI b).toUInt32 >>> ((nI 1).toUInt32 &&& Int32.toUInt32 31)).toInt32) &&& (nI 1431655765))) &&& (nI 858993459)) + (((((nI b) - ((((nI b).toUInt32 >>> ((nI 1).toUInt32 &&& Int32.toUInt32 31)).toInt32) &&& (nI 1431655765))).toUInt32 >>> ((nI 2).toUInt32 &&& Int32.toUInt32 31)).toInt32) &&& (nI 858993459))) + ((((((nI b) - ((((nI b).toUInt32 >>> ((nI 1).toUInt32 &&& Int32.toUInt32 31)).toInt32) &&& (nI 1431655765))) &&& (nI 858993459)) + (((((nI b) - ((((nI b).toUInt32 >>> ((nI 1).toUInt32 &&& Int32.toUInt32 31)).toInt32) &&& (nI 1431655765))).toUInt32 >>> ((nI 2).toUInt32 &&& Int32.toUInt32 31)).toInt32) &&& (nI 858993459))).toUInt32 >>> ((nI 4).toUInt32 &&& Int32.toUInt32 31)).toInt32)) &&& (nI 252645135)).toUInt32 >>> ((nI 8).toUInt32 &&& Int32.toUInt32 31)).toInt32)))]) hE.x hE.b dJ6_bitCount_0f7a4_40 rfl hl (by decide) rfl (fun ls hl => ?_)
  refine lv_iload_n hE.x hE.b dJ6_bitCount_0f7a4_41 rfl (lv_at hl 0 rfl) ?_
  refine lv_iload_n hE.x hE.b dJ6_bitCount_0f7a4_42 rfl (lv_at hl 0 rfl) ?_
  refine lv_bipush (v := (nI 16)) hE.x hE.b dJ6_bitCount_0f7a4_43 rfl ?_
  refine lv_iushr hE.x hE.b dJ6_bitCount_0f7a4_45 rfl ?_
  refine lv_iadd hE.x hE.b dJ6_bitCount_0f7a4_46 ?_
  refine lv_istore_n (lv' := [(0, .int ((((((((nI b) - ((((nI b).toUInt32 >>> ((nI 1).toUInt32 &&& Int32.toUInt32 31)).toInt32) &&& (nI 1431655765))) &&& (nI 858993459)) + (((((nI b) - ((((nI b).toUInt32 >>> ((nI 1).toUInt32 &&& Int32.toUInt32 31)).toInt32) &&& (nI 1431655765))).toUInt32 >>> ((nI 2).toUInt32 &&& Int32.toUInt32 31)).toInt32) &&& (nI 858993459))) + ((((((nI b) - ((((nI b).toUInt32 >>> ((nI 1).toUInt32 &&& Int32.toUInt32 31)).toInt32) &&& (nI 1431655765))) &&& (nI 858993459)) + (((((nI b) - ((((nI b).toUInt32 >>> ((nI 1).toUInt32 &&& Int32.toUInt32 31)).toInt32) &&& (nI 1431655765))).toUInt32 >>> ((nI 2).toUInt32 &&& Int32.toUInt32 31)).toInt32) &&& (nI 858993459))).toUInt32 >>> ((nI 4).toUInt32 &&& Int32.toUInt32 31)).toInt32)) &&& (nI 252645135)) + ((((((((nI b) - ((((nI b).toUInt32 >>> ((nI 1).toUInt32 &&& Int32.toUInt32 31)).toInt32) &&& (nI 1431655765))) &&& (nI 858993459)) + (((((nI b) - ((((nI b).toUInt32 >>> ((nI 1).toUInt32 &&& Int32.toUInt32 31)).toInt32) &&& (nI 1431655765))).toUInt32 >>> ((nI 2).toUInt32 &&& Int32.toUInt32 31)).toInt32) &&& (nI 858993459))) + ((((((nI b) - ((((nI b).toUInt32 >>> ((nI 1).toUInt32 &&& Int32.toUInt32 31)).toInt32) &&& (nI 1431655765))) &&& (nI 858993459)) + (((((nI b) - ((((nI b).toUInt32 >>> ((nI 1).toUInt32 &&& Int32.toUInt32 31)).toInt32) &&& (nI 1431655765))).toUInt32 >>> ((nI 2).toUInt32 &&& Int32.toUInt32 31)).toInt32) &&& (nI 858993459))).toUInt32 >>> ((nI 4).toUInt32 &&& Int32.toUInt32 31)).toInt32)) &&& (nI 252645135)).toUInt32 >>> ((nI 8).toUInt32 &&& Int32.toUInt32 31)).toInt32)) + (((((((((nI b) - ((((nI b).toUInt32 >>> ((nI 1).toUInt32 &&& Int32.toUInt32 31)).toInt32) &&& (nI 1431655765))) &&& (nI 858993459)) + (((((nI b) - ((((nI b).toUInt32 >>> ((nI 1).toUInt32 &&& Int32.toUInt32 31)).toInt32) &&& (nI 1431655765))).toUInt32 >>> ((nI 2).toUInt32 &&& Int32.toUInt32 31)).toInt32) &&& (nI 858993459))) + ((((((nI b) - ((((nI b).toUInt32 >>> ((nI 1).toUInt32 &&& Int32.toUInt32 31)).toInt32) &&& (nI 1431655765))) &&& (nI 858993459)) + (((((nI b) - ((((nI b).toUInt32 >>> ((nI 1).toUInt32 &&& Int32.toUInt32 31)).toInt32) &&& (nI 1431655765))).toUInt32 >>> ((nI 2).toUInt32 &&& Int32.toUInt32 31)).toInt32) &&& (nI 858993459))).toUInt32 >>> ((nI 4).toUInt32 &&& Int32.toUInt32 31)).toInt32)) &&& (nI 252645135)) + ((((((((nI b) - ((((nI b).toUInt32 >>> ((nI 1).toUInt32 &&& Int32.toUInt32 31)).toInt32) &&& (nI 1431655765))) &&& (nI 858993459)) + (((((nI b) - ((((nI b).toUInt32 >>> ((nI 1).toUInt32 &&& Int32.toUInt32 31)).toInt32) &&& (nI 1431655765))).toUInt32 >>> ((nI 2).toUInt32 &&& Int32.toUInt32 31)).toInt32) &&& (nI 858993459))) + ((((((nI b) - ((((nI b).toUInt32 >>> ((nI 1).toUInt32 &&& Int32.toUInt32 31)).toInt32) &&& (nI 1431655765))) &&& (nI 858993459)) + (((((nI b) - ((((nI b).toUInt32 >>> ((nI 1).toUInt32 &&& Int32.toUInt32 31)).toInt32) &&& (nI 1431655765))).toUInt32 >>> ((nI 2).toUInt32 &&& Int32.toUInt32 31)).toInt32) &&& (nI 858993459))).toUInt32 >>> ((nI 4).toUInt32 &&& Int32.toUInt32 31)).toInt32)) &&& (nI 252645135)).toUInt32 >>> ((nI 8).toUInt32 &&& Int32.toUInt32 31)).toInt32)).toUInt32 >>> ((nI 16).toUInt32 &&& Int32.toUInt32 31)).toInt32)))]) hE.x hE.b dJ6_bitCount_0f7a4_47 rfl hl (by decide) rfl (fun ls hl => ?_)
  refine lv_iload_n hE.x hE.b dJ6_bitCount_0f7a4_48 rfl (lv_at hl 0 rfl) ?_
  refine lv_bipush (v := (nI 63)) hE.x hE.b dJ6_bitCount_0f7a4_49 rfl ?_
  refine lv_iand hE.x hE.b dJ6_bitCount_0f7a4_51 ?_
  exact z_iret (v := (((((((((nI b) - ((((nI b).toUInt32 >>> ((nI 1).toUInt32 &&& Int32.toUInt32 31)).toInt32) &&& (nI 1431655765))) &&& (nI 858993459)) + (((((nI b) - ((((nI b).toUInt32 >>> ((nI 1).toUInt32 &&& Int32.toUInt32 31)).toInt32) &&& (nI 1431655765))).toUInt32 >>> ((nI 2).toUInt32 &&& Int32.toUInt32 31)).toInt32) &&& (nI 858993459))) + ((((((nI b) - ((((nI b).toUInt32 >>> ((nI 1).toUInt32 &&& Int32.toUInt32 31)).toInt32) &&& (nI 1431655765))) &&& (nI 858993459)) + (((((nI b) - ((((nI b).toUInt32 >>> ((nI 1).toUInt32 &&& Int32.toUInt32 31)).toInt32) &&& (nI 1431655765))).toUInt32 >>> ((nI 2).toUInt32 &&& Int32.toUInt32 31)).toInt32) &&& (nI 858993459))).toUInt32 >>> ((nI 4).toUInt32 &&& Int32.toUInt32 31)).toInt32)) &&& (nI 252645135)) + ((((((((nI b) - ((((nI b).toUInt32 >>> ((nI 1).toUInt32 &&& Int32.toUInt32 31)).toInt32) &&& (nI 1431655765))) &&& (nI 858993459)) + (((((nI b) - ((((nI b).toUInt32 >>> ((nI 1).toUInt32 &&& Int32.toUInt32 31)).toInt32) &&& (nI 1431655765))).toUInt32 >>> ((nI 2).toUInt32 &&& Int32.toUInt32 31)).toInt32) &&& (nI 858993459))) + ((((((nI b) - ((((nI b).toUInt32 >>> ((nI 1).toUInt32 &&& Int32.toUInt32 31)).toInt32) &&& (nI 1431655765))) &&& (nI 858993459)) + (((((nI b) - ((((nI b).toUInt32 >>> ((nI 1).toUInt32 &&& Int32.toUInt32 31)).toInt32) &&& (nI 1431655765))).toUInt32 >>> ((nI 2).toUInt32 &&& Int32.toUInt32 31)).toInt32) &&& (nI 858993459))).toUInt32 >>> ((nI 4).toUInt32 &&& Int32.toUInt32 31)).toInt32)) &&& (nI 252645135)).toUInt32 >>> ((nI 8).toUInt32 &&& Int32.toUInt32 31)).toInt32)) + (((((((((nI b) - ((((nI b).toUInt32 >>> ((nI 1).toUInt32 &&& Int32.toUInt32 31)).toInt32) &&& (nI 1431655765))) &&& (nI 858993459)) + (((((nI b) - ((((nI b).toUInt32 >>> ((nI 1).toUInt32 &&& Int32.toUInt32 31)).toInt32) &&& (nI 1431655765))).toUInt32 >>> ((nI 2).toUInt32 &&& Int32.toUInt32 31)).toInt32) &&& (nI 858993459))) + ((((((nI b) - ((((nI b).toUInt32 >>> ((nI 1).toUInt32 &&& Int32.toUInt32 31)).toInt32) &&& (nI 1431655765))) &&& (nI 858993459)) + (((((nI b) - ((((nI b).toUInt32 >>> ((nI 1).toUInt32 &&& Int32.toUInt32 31)).toInt32) &&& (nI 1431655765))).toUInt32 >>> ((nI 2).toUInt32 &&& Int32.toUInt32 31)).toInt32) &&& (nI 858993459))).toUInt32 >>> ((nI 4).toUInt32 &&& Int32.toUInt32 31)).toInt32)) &&& (nI 252645135)) + ((((((((nI b) - ((((nI b).toUInt32 >>> ((nI 1).toUInt32 &&& Int32.toUInt32 31)).toInt32) &&& (nI 1431655765))) &&& (nI 858993459)) + (((((nI b) - ((((nI b).toUInt32 >>> ((nI 1).toUInt32 &&& Int32.toUInt32 31)).toInt32) &&& (nI 1431655765))).toUInt32 >>> ((nI 2).toUInt32 &&& Int32.toUInt32 31)).toInt32) &&& (nI 858993459))) + ((((((nI b) - ((((nI b).toUInt32 >>> ((nI 1).toUInt32 &&& Int32.toUInt32 31)).toInt32) &&& (nI 1431655765))) &&& (nI 858993459)) + (((((nI b) - ((((nI b).toUInt32 >>> ((nI 1).toUInt32 &&& Int32.toUInt32 31)).toInt32) &&& (nI 1431655765))).toUInt32 >>> ((nI 2).toUInt32 &&& Int32.toUInt32 31)).toInt32) &&& (nI 858993459))).toUInt32 >>> ((nI 4).toUInt32 &&& Int32.toUInt32 31)).toInt32)) &&& (nI 252645135)).toUInt32 >>> ((nI 8).toUInt32 &&& Int32.toUInt32 31)).toInt32)).toUInt32 >>> ((nI 16).toUInt32 &&& Int32.toUInt32 31)).toInt32)) &&& (nI 63))) (ws := X) hE hB hr (⟨(show ∀ b, b < 256 → (((((((((nI b) - ((((nI b).toUInt32 >>> ((nI 1).toUInt32 &&& Int32.toUInt32 31)).toInt32) &&& (nI 1431655765))) &&& (nI 858993459)) + (((((nI b) - ((((nI b).toUInt32 >>> ((nI 1).toUInt32 &&& Int32.toUInt32 31)).toInt32) &&& (nI 1431655765))).toUInt32 >>> ((nI 2).toUInt32 &&& Int32.toUInt32 31)).toInt32) &&& (nI 858993459))) + ((((((nI b) - ((((nI b).toUInt32 >>> ((nI 1).toUInt32 &&& Int32.toUInt32 31)).toInt32) &&& (nI 1431655765))) &&& (nI 858993459)) + (((((nI b) - ((((nI b).toUInt32 >>> ((nI 1).toUInt32 &&& Int32.toUInt32 31)).toInt32) &&& (nI 1431655765))).toUInt32 >>> ((nI 2).toUInt32 &&& Int32.toUInt32 31)).toInt32) &&& (nI 858993459))).toUInt32 >>> ((nI 4).toUInt32 &&& Int32.toUInt32 31)).toInt32)) &&& (nI 252645135)) + ((((((((nI b) - ((((nI b).toUInt32 >>> ((nI 1).toUInt32 &&& Int32.toUInt32 31)).toInt32) &&& (nI 1431655765))) &&& (nI 858993459)) + (((((nI b) - ((((nI b).toUInt32 >>> ((nI 1).toUInt32 &&& Int32.toUInt32 31)).toInt32) &&& (nI 1431655765))).toUInt32 >>> ((nI 2).toUInt32 &&& Int32.toUInt32 31)).toInt32) &&& (nI 858993459))) + ((((((nI b) - ((((nI b).toUInt32 >>> ((nI 1).toUInt32 &&& Int32.toUInt32 31)).toInt32) &&& (nI 1431655765))) &&& (nI 858993459)) + (((((nI b) - ((((nI b).toUInt32 >>> ((nI 1).toUInt32 &&& Int32.toUInt32 31)).toInt32) &&& (nI 1431655765))).toUInt32 >>> ((nI 2).toUInt32 &&& Int32.toUInt32 31)).toInt32) &&& (nI 858993459))).toUInt32 >>> ((nI 4).toUInt32 &&& Int32.toUInt32 31)).toInt32)) &&& (nI 252645135)).toUInt32 >>> ((nI 8).toUInt32 &&& Int32.toUInt32 31)).toInt32)) + (((((((((nI b) - ((((nI b).toUInt32 >>> ((nI 1).toUInt32 &&& Int32.toUInt32 31)).toInt32) &&& (nI 1431655765))) &&& (nI 858993459)) + (((((nI b) - ((((nI b).toUInt32 >>> ((nI 1).toUInt32 &&& Int32.toUInt32 31)).toInt32) &&& (nI 1431655765))).toUInt32 >>> ((nI 2).toUInt32 &&& Int32.toUInt32 31)).toInt32) &&& (nI 858993459))) + ((((((nI b) - ((((nI b).toUInt32 >>> ((nI 1).toUInt32 &&& Int32.toUInt32 31)).toInt32) &&& (nI 1431655765))) &&& (nI 858993459)) + (((((nI b) - ((((nI b).toUInt32 >>> ((nI 1).toUInt32 &&& Int32.toUInt32 31)).toInt32) &&& (nI 1431655765))).toUInt32 >>> ((nI 2).toUInt32 &&& Int32.toUInt32 31)).toInt32) &&& (nI 858993459))).toUInt32 >>> ((nI 4).toUInt32 &&& Int32.toUInt32 31)).toInt32)) &&& (nI 252645135)) + ((((((((nI b) - ((((nI b).toUInt32 >>> ((nI 1).toUInt32 &&& Int32.toUInt32 31)).toInt32) &&& (nI 1431655765))) &&& (nI 858993459)) + (((((nI b) - ((((nI b).toUInt32 >>> ((nI 1).toUInt32 &&& Int32.toUInt32 31)).toInt32) &&& (nI 1431655765))).toUInt32 >>> ((nI 2).toUInt32 &&& Int32.toUInt32 31)).toInt32) &&& (nI 858993459))) + ((((((nI b) - ((((nI b).toUInt32 >>> ((nI 1).toUInt32 &&& Int32.toUInt32 31)).toInt32) &&& (nI 1431655765))) &&& (nI 858993459)) + (((((nI b) - ((((nI b).toUInt32 >>> ((nI 1).toUInt32 &&& Int32.toUInt32 31)).toInt32) &&& (nI 1431655765))).toUInt32 >>> ((nI 2).toUInt32 &&& Int32.toUInt32 31)).toInt32) &&& (nI 858993459))).toUInt32 >>> ((nI 4).toUInt32 &&& Int32.toUInt32 31)).toInt32)) &&& (nI 252645135)).toUInt32 >>> ((nI 8).toUInt32 &&& Int32.toUInt32 31)).toInt32)).toUInt32 >>> ((nI 16).toUInt32 &&& Int32.toUInt32 31)).toInt32)) &&& (nI 63)) = nI (pop b) from by decide +kernel) b hb, rfl⟩) dJ6_bitCount_0f7a4_52

set_option maxHeartbeats 4000000 in
set_option maxRecDepth 100000 in
theorem c_X8_deciding (l : Launch) (g : zG) (rd : Int32) (sp : Nat) (al : Nat) (P : Nat → Bool) (Q : Nat → Bool) (C : Nat) (X : va_W) (hsp : sp = rdB P C) (hal : al = rdB Q C) (hC : C ≤ 8) : Met l yX8_deciding (Cond.code yX8_deciding cX8_deciding 5 (some .int) :: TBL) { frames := 1, cells := 0, slots := 0, locals := 21 } (zPc [.int rd, .int (nI sp), .int (nI al)] g (X)) (zQi g (fun r ws => r = (oI (decQ Q C rd P)) ∧ ws = X)) 0 0 (zA (gz g)) := by
  refine z_start (by decide +kernel) rfl (Nat.le_of_ble_eq_true rfl) ?_
  intro p e s m args below meth c ls hE hr hnm hB hl
  have hl : lv_has ls 5 [(0, .int rd), (1, .int (nI sp)), (2, .int (nI al))] := hl
  revert hB
  generalize s.heap = H
  generalize ([] : List Loc) = locs
  intro hB
  have ha8 := rdB_256 (P := (fun c => P c && Q c)) hC
  have hf8 := rdB_256 (P := (fun c => P c && !Q c)) hC
  have hca := cn_le (fun c => P c && Q c) C
  have hcf := cn_le (fun c => P c && !Q c) C
  refine lv_iload_n hE.x hE.b dX8_deciding_0 rfl (lv_at hl 1 rfl) ?_
  refine lv_iload_n hE.x hE.b dX8_deciding_1 rfl (lv_at hl 2 rfl) ?_
  refine lv_iand hE.x hE.b dX8_deciding_2 ?_
  refine z_top (y := (nI (rdB (fun c => P c && Q c) C))) (by rw [hsp, hal, rdB_and]) ?_
  refine lv_istore_n (lv' := [(3, .int (nI (rdB (fun c => P c && Q c) C))), (0, .int rd), (1, .int (nI sp)), (2, .int (nI al))]) hE.x hE.b dX8_deciding_3 rfl hl (by decide) rfl (fun ls hl => ?_)
  refine lv_iload_n hE.x hE.b dX8_deciding_4 rfl (lv_at hl 2 rfl) ?_
  refine lv_iload_n hE.x hE.b dX8_deciding_5 rfl (lv_at hl 3 rfl) ?_
  refine lv_iconst (v := (-1)) hE.x hE.b dX8_deciding_6 rfl ?_
  refine lv_ixor hE.x hE.b dX8_deciding_7 ?_
  refine lv_iand hE.x hE.b dX8_deciding_8 ?_
  refine z_top (y := (nI (rdB (fun c => P c && !Q c) C))) (by rw [hsp, hal]; exact rdB_andn) ?_
  refine lv_istore (lv' := [(4, .int (nI (rdB (fun c => P c && !Q c) C))), (3, .int (nI (rdB (fun c => P c && Q c) C))), (0, .int rd), (1, .int (nI sp)), (2, .int (nI al))]) hE.x hE.b dX8_deciding_9 hl (by decide) rfl (fun ls hl => ?_)
  refine lv_iload_n hE.x hE.b dX8_deciding_11 rfl (lv_at hl 2 rfl) ?_
  by_cases e_1 : rd = nI 0
  · refine lv_tableIn (tgt := 40) hE.x hE.b dX8_deciding_12 (by rw [e_1]; decide) (by rw [e_1]; decide) (by rw [e_1]; rfl) (by decide) ?_
    refine lv_iload_n hE.x hE.b dX8_deciding_40 rfl (lv_at hl 3 rfl) ?_
    refine z_qi hB (z_cS hE hB (c_X8_firstOf l g sp P C (X) hsp (by omega)) q3_52 kX8_firstOf ⟨rfl, rfl⟩ ⟨Nat.le_of_ble_eq_true rfl, Nat.le_of_ble_eq_true rfl⟩ rfl hl.1 rfl (Nat.le_of_ble_eq_true rfl) dX8_deciding_41 ⟨Nat.le_of_ble_eq_true rfl, Nat.le_of_ble_eq_true rfl⟩) (fun r_2 w_3 H locs hw hB => ?_)
    obtain ⟨hr9, hw9⟩ := hw
    have hr9 := hr9.symm
    subst hr9
    have hw9 := hw9.symm
    subst hw9
    exact z_iret (v := (oI (hF P C))) (ws := X) hE hB hr (⟨by unfold decQ dec; rw [if_pos e_1], rfl⟩) dX8_deciding_44
  by_cases e_4 : rd = nI 1
  · refine lv_tableIn (tgt := 45) hE.x hE.b dX8_deciding_12 (by rw [e_4]; decide) (by rw [e_4]; decide) (by rw [e_4]; rfl) (by decide) ?_
    refine lv_iload_n hE.x hE.b dX8_deciding_45 rfl (lv_at hl 3 rfl) ?_
    refine z_qi hB (z_cS hE hB (c_X8_lastOf l g sp P C (X) hsp (by omega)) q3_55 kX8_lastOf ⟨rfl, rfl⟩ ⟨Nat.le_of_ble_eq_true rfl, Nat.le_of_ble_eq_true rfl⟩ rfl hl.1 rfl (Nat.le_of_ble_eq_true rfl) dX8_deciding_46 ⟨Nat.le_of_ble_eq_true rfl, Nat.le_of_ble_eq_true rfl⟩) (fun r_5 w_6 H locs hw hB => ?_)
    obtain ⟨hr9, hw9⟩ := hw
    have hr9 := hr9.symm
    subst hr9
    have hw9 := hw9.symm
    subst hw9
    exact z_iret (v := (oI (hL P C))) (ws := X) hE hB hr (⟨by unfold decQ dec; rw [if_neg e_1]; rw [if_pos e_4], rfl⟩) dX8_deciding_49
  by_cases e_7 : rd = nI 2
  · refine lv_tableIn (tgt := 50) hE.x hE.b dX8_deciding_12 (by rw [e_7]; decide) (by rw [e_7]; decide) (by rw [e_7]; rfl) (by decide) ?_
    refine lv_iload_n hE.x hE.b dX8_deciding_50 rfl (lv_at hl 1 rfl) ?_
    refine z_eq0 (tgt := 58) (X := (((rdB (fun c => P c && Q c) C) : Nat) : Int)) hE dX8_deciding_51 (by decide) (nI_toInt (n := (rdB (fun c => P c && Q c) C)) (by omega)) (fun c_8 => ?_) (fun c_8 => ?_)
    · refine lv_iload_n hE.x hE.b dX8_deciding_58 rfl (lv_at hl 3 rfl) ?_
      refine z_qi hB (z_cS hE hB (c_X8_firstOf l g sp P C (X) hsp (by omega)) q3_52 kX8_firstOf ⟨rfl, rfl⟩ ⟨Nat.le_of_ble_eq_true rfl, Nat.le_of_ble_eq_true rfl⟩ rfl hl.1 rfl (Nat.le_of_ble_eq_true rfl) dX8_deciding_59 ⟨Nat.le_of_ble_eq_true rfl, Nat.le_of_ble_eq_true rfl⟩) (fun r_9 w_10 H locs hw hB => ?_)
      obtain ⟨hr9, hw9⟩ := hw
      have hr9 := hr9.symm
      subst hr9
      have hw9 := hw9.symm
      subst hw9
      exact z_iret (v := (oI (hF P C))) (ws := X) hE hB hr (⟨by unfold decQ dec; rw [if_neg e_1]; rw [if_neg e_4]; rw [if_pos e_7]; rw [(rdB_0 (P := (fun c => P c && Q c)) C).mpr (by omega)], rfl⟩) dX8_deciding_62
    · refine lv_iload_n hE.x hE.b dX8_deciding_54 rfl (lv_at hl 1 rfl) ?_
      refine lv_goto (tgt := 59) hE.x hE.b dX8_deciding_55 (by decide) ?_
      refine z_qi hB (z_cS hE hB (c_X8_firstOf l g (rdB (fun c => P c && Q c) C) (fun c => P c && Q c) C (X) rfl (by omega)) q3_52 kX8_firstOf ⟨rfl, rfl⟩ ⟨Nat.le_of_ble_eq_true rfl, Nat.le_of_ble_eq_true rfl⟩ rfl hl.1 rfl (Nat.le_of_ble_eq_true rfl) dX8_deciding_59 ⟨Nat.le_of_ble_eq_true rfl, Nat.le_of_ble_eq_true rfl⟩) (fun r_11 w_12 H locs hw hB => ?_)
      obtain ⟨hr9, hw9⟩ := hw
      have hr9 := hr9.symm
      subst hr9
      have hw9 := hw9.symm
      subst hw9
      exact z_iret (v := (oI (hF (fun c => P c && Q c) C))) (ws := X) hE hB hr (⟨by unfold decQ dec; rw [if_neg e_1]; rw [if_neg e_4]; rw [if_pos e_7]; cases h9 : hF (fun c => P c && Q c) C with
      | none => exact absurd ((rdB_0 C).mp h9) (by omega)
      | some j => rfl, rfl⟩) dX8_deciding_62
  refine lv_tableOut (tgt := 63) hE.x hE.b dX8_deciding_12 (by have g0 := ne_toInt e_1 (by decide); have g1 := ne_toInt e_4 (by decide); have g2 := ne_toInt e_7 (by decide); omega) (by decide) ?_
  refine lv_iload_n hE.x hE.b dX8_deciding_63 rfl (lv_at hl 1 rfl) ?_
  refine z_qi hB (z_cS hE hB (c_J6_bitCount_0f7a4 l g (rdB (fun c => P c && Q c) C) (X) (by omega)) q3_58 kJ6_bitCount_0f7a4 ⟨rfl, rfl⟩ ⟨Nat.le_of_ble_eq_true rfl, Nat.le_of_ble_eq_true rfl⟩ rfl hl.1 rfl (Nat.le_of_ble_eq_true rfl) dX8_deciding_64 ⟨Nat.le_of_ble_eq_true rfl, Nat.le_of_ble_eq_true rfl⟩) (fun r_13 w_14 H locs hw hB => ?_)
  obtain ⟨hr9, hw9⟩ := hw
  have hr9 := hr9.symm
  subst hr9
  have hw9 := hw9.symm
  subst hw9
  refine z_top (y := (nI (cn (fun c => P c && Q c) C))) (by rw [pop_rdB C hC]) ?_
  refine lv_iload hE.x hE.b dX8_deciding_67 (lv_at hl 0 rfl) ?_
  refine z_qi hB (z_cS hE hB (c_J6_bitCount_0f7a4 l g (rdB (fun c => P c && !Q c) C) (X) (by omega)) q3_58 kJ6_bitCount_0f7a4 ⟨rfl, rfl⟩ ⟨Nat.le_of_ble_eq_true rfl, Nat.le_of_ble_eq_true rfl⟩ rfl hl.1 rfl (Nat.le_of_ble_eq_true rfl) dX8_deciding_69 ⟨Nat.le_of_ble_eq_true rfl, Nat.le_of_ble_eq_true rfl⟩) (fun r_15 w_16 H locs hw hB => ?_)
  obtain ⟨hr9, hw9⟩ := hw
  have hr9 := hr9.symm
  subst hr9
  have hw9 := hw9.symm
  subst hw9
  refine z_top (y := (nI (cn (fun c => P c && !Q c) C))) (by rw [pop_rdB C hC]) ?_
  refine z_le (tgt := 79) (X := (((cn (fun c => P c && Q c) C) : Nat) : Int)) (Y := (((cn (fun c => P c && !Q c) C) : Nat) : Int)) hE dX8_deciding_72 (by decide) (nI_toInt (n := (cn (fun c => P c && Q c) C)) (by omega)) (nI_toInt (n := (cn (fun c => P c && !Q c) C)) (by omega)) (fun c_17 => ?_) (fun c_17 => ?_)
  · refine lv_iload hE.x hE.b dX8_deciding_79 (lv_at hl 0 rfl) ?_
    refine z_qi hB (z_cS hE hB (c_X8_firstOf l g (rdB (fun c => P c && !Q c) C) (fun c => P c && !Q c) C (X) rfl (by omega)) q3_52 kX8_firstOf ⟨rfl, rfl⟩ ⟨Nat.le_of_ble_eq_true rfl, Nat.le_of_ble_eq_true rfl⟩ rfl hl.1 rfl (Nat.le_of_ble_eq_true rfl) dX8_deciding_81 ⟨Nat.le_of_ble_eq_true rfl, Nat.le_of_ble_eq_true rfl⟩) (fun r_18 w_19 H locs hw hB => ?_)
    obtain ⟨hr9, hw9⟩ := hw
    have hr9 := hr9.symm
    subst hr9
    have hw9 := hw9.symm
    subst hw9
    exact z_iret (v := (oI (hF (fun c => P c && !Q c) C))) (ws := X) hE hB hr (⟨by unfold decQ dec; rw [if_neg e_1]; rw [if_neg e_4]; rw [if_neg e_7]; rw [if_neg (by omega)], rfl⟩) dX8_deciding_84
  · refine lv_iload_n hE.x hE.b dX8_deciding_75 rfl (lv_at hl 1 rfl) ?_
    refine lv_goto (tgt := 81) hE.x hE.b dX8_deciding_76 (by decide) ?_
    refine z_qi hB (z_cS hE hB (c_X8_firstOf l g (rdB (fun c => P c && Q c) C) (fun c => P c && Q c) C (X) rfl (by omega)) q3_52 kX8_firstOf ⟨rfl, rfl⟩ ⟨Nat.le_of_ble_eq_true rfl, Nat.le_of_ble_eq_true rfl⟩ rfl hl.1 rfl (Nat.le_of_ble_eq_true rfl) dX8_deciding_81 ⟨Nat.le_of_ble_eq_true rfl, Nat.le_of_ble_eq_true rfl⟩) (fun r_20 w_21 H locs hw hB => ?_)
    obtain ⟨hr9, hw9⟩ := hw
    have hr9 := hr9.symm
    subst hr9
    have hw9 := hw9.symm
    subst hw9
    exact z_iret (v := (oI (hF (fun c => P c && Q c) C))) (ws := X) hE hB hr (⟨by unfold decQ dec; rw [if_neg e_1]; rw [if_neg e_4]; rw [if_neg e_7]; rw [if_pos (by omega)], rfl⟩) dX8_deciding_84

set_option maxHeartbeats 4000000 in
set_option maxRecDepth 100000 in
theorem c_X8_forbidden (l : Launch) (g : zG) (rd : Int32) (sp : Nat) (al : Nat) (P : Nat → Bool) (Q : Nat → Bool) (C : Nat) (X : va_W) (hsp : sp = rdB P C) (hal : al = rdB Q C) (hC : C ≤ 8) : Met l yX8_forbidden (Cond.code yX8_forbidden cX8_forbidden 4 (some .boolean) :: TBL) { frames := 2, cells := 0, slots := 0, locals := 45 } (zPc [.int rd, .int (nI sp), .int (nI al)] g (X)) (zQi g (fun r ws => r = bI (frbQ Q C rd P) ∧ ws = X)) 0 0 (zA (gz g)) := by
  refine z_start (by decide +kernel) rfl (Nat.le_of_ble_eq_true rfl) ?_
  intro p e s m args below meth c ls hE hr hnm hB hl
  have hl : lv_has ls 4 [(0, .int rd), (1, .int (nI sp)), (2, .int (nI al))] := hl
  revert hB
  generalize s.heap = H
  generalize ([] : List Loc) = locs
  intro hB
  have ha8 : al < 256 := by rw [hal]; exact rdB_256 hC
  refine lv_iload_n hE.x hE.b dX8_forbidden_0 rfl (lv_at hl 0 rfl) ?_
  refine lv_iload_n hE.x hE.b dX8_forbidden_1 rfl (lv_at hl 1 rfl) ?_
  refine lv_iload_n hE.x hE.b dX8_forbidden_2 rfl (lv_at hl 2 rfl) ?_
  refine z_qi hB (z_cS hE hB (c_X8_deciding l g rd sp al P Q C (X) hsp hal (by omega)) q3_71 kX8_deciding ⟨rfl, rfl⟩ ⟨Nat.le_of_ble_eq_true rfl, Nat.le_of_ble_eq_true rfl⟩ rfl hl.1 rfl (Nat.le_of_ble_eq_true rfl) dX8_forbidden_3 ⟨Nat.le_of_ble_eq_true rfl, Nat.le_of_ble_eq_true rfl⟩) (fun r_1 w_2 H locs hw hB => ?_)
  obtain ⟨hr9, hw9⟩ := hw
  have hr9 := hr9.symm
  subst hr9
  have hw9 := hw9.symm
  subst hw9
  refine lv_istore_n (lv' := [(3, .int (oI (decQ Q C rd P))), (0, .int rd), (1, .int (nI sp)), (2, .int (nI al))]) hE.x hE.b dX8_forbidden_6 rfl hl (by decide) rfl (fun ls hl => ?_)
  refine lv_iload_n hE.x hE.b dX8_forbidden_7 rfl (lv_at hl 0 rfl) ?_
  refine lv_iconst (v := (-1)) hE.x hE.b dX8_forbidden_8 rfl ?_
  refine lv_icmp_eq (tgt := 24) hE.x hE.b dX8_forbidden_9 (by decide) (fun c_3 => ?_) (fun c_3 => ?_)
  · refine lv_iconst (v := nI 0) hE.x hE.b dX8_forbidden_24 rfl ?_
    exact z_bret (b := false) (ws := X) hE hB hr (⟨by unfold frbQ; rw [oI_dQ c_3 hC], rfl⟩) dX8_forbidden_25
  · obtain ⟨k, hk⟩ := oI_some c_3
    have hk8 := decQ_lt hk
    have hl : lv_has ls 4 [(3, .int (nI k)), (0, .int rd), (1, .int (nI sp)), (2, .int (nI al))] := by rw [hk] at hl; exact hl
    refine lv_iload_n hE.x hE.b dX8_forbidden_12 rfl (lv_at hl 3 rfl) ?_
    refine lv_iload_n hE.x hE.b dX8_forbidden_13 rfl (lv_at hl 0 rfl) ?_
    refine lv_ishr hE.x hE.b dX8_forbidden_14 ?_
    refine lv_iconst (v := nI 1) hE.x hE.b dX8_forbidden_15 rfl ?_
    refine lv_iand hE.x hE.b dX8_forbidden_16 ?_
    refine z_top (y := (nI (al / 2 ^ k % 2))) (bit_at ha8 (by omega)) ?_
    refine z_ne0 (tgt := 24) (X := (((al / 2 ^ k % 2) : Nat) : Int)) hE dX8_forbidden_17 (by decide) (nI_toInt (n := (al / 2 ^ k % 2)) (by omega)) (fun c_4 => ?_) (fun c_4 => ?_)
    · refine lv_iconst (v := nI 0) hE.x hE.b dX8_forbidden_24 rfl ?_
      exact z_bret (b := false) (ws := X) hE hB hr (⟨by rw [frbQ_k hk, bitQ_t hal c_4 hk8]; rfl, rfl⟩) dX8_forbidden_25
    · refine lv_iconst (v := nI 1) hE.x hE.b dX8_forbidden_20 rfl ?_
      refine lv_goto (tgt := 25) hE.x hE.b dX8_forbidden_21 (by decide) ?_
      exact z_bret (b := true) (ws := X) hE hB hr (⟨by rw [frbQ_k hk, bitQ_f hal c_4 hk8]; rfl, rfl⟩) dX8_forbidden_25

set_option maxHeartbeats 4000000 in
set_option maxRecDepth 100000 in
theorem c_X8_mixed (l : Launch) (g : zG) (h : Int64) (v : Int64) (X : va_W)  : Met l yX8_mixed (Cond.code yX8_mixed cX8_mixed 4 (some .long) :: TBL) { frames := 0, cells := 0, slots := 0, locals := 0 } (zPc [.long h, .long v] g (X)) (zQl g (fun r ws => r = (lN 31 * h + v) ∧ ws = X)) 0 0 (zA (gz g)) := by
  refine z_start (by decide +kernel) rfl (Nat.le_of_ble_eq_true rfl) ?_
  intro p e s m args below meth c ls hE hr hnm hB hl
  have hl : lv_has ls 4 [(0, .long h), (2, .long v)] := hl
  revert hB
  generalize s.heap = H
  generalize ([] : List Loc) = locs
  intro hB
  refine lv_ldc2 (v := lN 31) hE.x hE.b hE.o (hE.t _ q3_226) dX8_mixed_0 ?_
  refine lv_lload_n hE.x hE.b dX8_mixed_3 rfl (lv_at hl 0 rfl) ?_
  refine lv_lmul hE.x hE.b dX8_mixed_4 ?_
  refine lv_lload_n hE.x hE.b dX8_mixed_5 rfl (lv_at hl 1 rfl) ?_
  refine lv_ladd hE.x hE.b dX8_mixed_6 ?_
  exact z_lret (v := (((lN 31) * h) + v)) (ws := X) hE hB hr (⟨rfl, rfl⟩) dX8_mixed_7

set_option maxHeartbeats 4000000 in
set_option maxRecDepth 100000 in
theorem c_X8_nextDrawn (l : Launch) (g : zG) (xn : Nat) (X : va_W) (hx : xn < 2147483648) : Met l yX8_nextDrawn (Cond.code yX8_nextDrawn cX8_nextDrawn 2 (some .long) :: TBL) { frames := 0, cells := 0, slots := 0, locals := 0 } (zPc [.long (lN xn)] g (X)) (zQl g (fun r ws => r = (lN (nxt xn)) ∧ ws = X)) 0 0 (zA (gz g)) := by
  refine z_start (by decide +kernel) rfl (Nat.le_of_ble_eq_true rfl) ?_
  intro p e s m args below meth c ls hE hr hnm hB hl
  have hl : lv_has ls 2 [(0, .long (lN xn))] := hl
  revert hB
  generalize s.heap = H
  generalize ([] : List Loc) = locs
  intro hB
  have hnl := nxt_lt xn
  refine lv_lload_n hE.x hE.b dX8_nextDrawn_0 rfl (lv_at hl 0 rfl) ?_
  refine lv_ldc2 (v := lN 1103515245) hE.x hE.b hE.o (hE.t _ q3_183) dX8_nextDrawn_1 ?_
  refine lv_lmul hE.x hE.b dX8_nextDrawn_4 ?_
  refine z_topl (y := (lN (xn * 1103515245))) (by rw [lN_mul]) ?_
  refine lv_ldc2 (v := lN 12345) hE.x hE.b hE.o (hE.t _ q3_184) dX8_nextDrawn_5 ?_
  refine lv_ladd hE.x hE.b dX8_nextDrawn_8 ?_
  refine z_topl (y := (lN (xn * 1103515245 + 12345))) (by rw [lN_add]) ?_
  refine lv_ldc2 (v := lN 2147483648) hE.x hE.b hE.o (hE.t _ q3_185) dX8_nextDrawn_9 ?_
  refine lv_lrem hE.x hE.b dX8_nextDrawn_12 (by decide) ?_
  refine z_topl (y := (lN (nxt xn))) (pk_lRem (by omega) (by omega) (by omega)) ?_
  exact z_lret (v := (lN (nxt xn))) (ws := X) hE hB hr (⟨rfl, rfl⟩) dX8_nextDrawn_13

set_option maxHeartbeats 4000000 in
set_option maxRecDepth 100000 in
theorem c_X8_leftOver (l : Launch) (g : zG) (xn : Nat) (q : Nat) (X : va_W) (hx : xn < 2147483648) (hq : 0 < q) (hq6 : q ≤ 60) : Met l yX8_leftOver (Cond.code yX8_leftOver cX8_leftOver 3 (some .int) :: TBL) { frames := 0, cells := 0, slots := 0, locals := 0 } (zPc [.long (lN xn), .int (nI q)] g (X)) (zQi g (fun r ws => r = nI (xn / 65536 % q) ∧ ws = X)) 0 0 (zA (gz g)) := by
  refine z_start (by decide +kernel) rfl (Nat.le_of_ble_eq_true rfl) ?_
  intro p e s m args below meth c ls hE hr hnm hB hl
  have hl : lv_has ls 3 [(0, .long (lN xn)), (2, .int (nI q))] := hl
  revert hB
  generalize s.heap = H
  generalize ([] : List Loc) = locs
  intro hB
  have hm9 : xn / 65536 % q < q := Nat.mod_lt _ hq
  refine lv_iload_n hE.x hE.b dX8_leftOver_0 rfl (lv_at hl 1 rfl) ?_
  refine z_gt0 (tgt := 8) (X := ((q : Nat) : Int)) hE dX8_leftOver_1 (by decide) (nI_toInt (n := q) (by omega)) (fun c_1 => ?_) (fun c_1 => ?_)
  · refine lv_lload_n hE.x hE.b dX8_leftOver_8 rfl (lv_at hl 0 rfl) ?_
    refine lv_ldc2 (v := lN 65536) hE.x hE.b hE.o (hE.t _ q3_189) dX8_leftOver_9 ?_
    refine lv_ldiv hE.x hE.b dX8_leftOver_12 (by decide) ?_
    refine z_topl (y := (lN (xn / 65536))) (pk_lDiv (by omega) (by omega) (by omega)) ?_
    refine lv_iload_n hE.x hE.b dX8_leftOver_13 rfl (lv_at hl 1 rfl) ?_
    refine lv_i2l (v := lN q) hE.x hE.b dX8_leftOver_14 (nI_l (by omega)) ?_
    refine lv_lrem hE.x hE.b dX8_leftOver_15 (lN_ne0 (by omega) (by omega)) ?_
    refine z_topl (y := (lN (xn / 65536 % q))) (pk_lRem (by omega) (by omega) (by omega)) ?_
    refine lv_l2i hE.x hE.b dX8_leftOver_16 rfl ?_
    refine z_top (y := (nI (xn / 65536 % q))) (lN_i _) ?_
    exact z_iret (v := (nI (xn / 65536 % q))) (ws := X) hE hB hr (⟨rfl, rfl⟩) dX8_leftOver_17
  · exact absurd hq (by omega)

set_option maxHeartbeats 4000000 in
set_option maxRecDepth 100000 in
theorem c_X8_commonDivisor (l : Launch) (g : zG) (u : Nat) (v : Nat) (X : va_W) (hu : u ≤ 60) (hv : v ≤ 60) (hv0 : 0 < v) : Met l yX8_commonDivisor (Cond.code yX8_commonDivisor cX8_commonDivisor 6 (some .int) :: TBL) { frames := 0, cells := 0, slots := 0, locals := 0 } (zPc [.int (nI u), .int (nI v)] g (X)) (zQi g (fun r ws => r = nI (Nat.gcd u v) ∧ ws = X)) 0 0 (zA (gz g)) := by
  refine z_start (by decide +kernel) rfl (Nat.le_of_ble_eq_true rfl) ?_
  intro p e s m args below meth c ls hE hr hnm hB hl
  have hl : lv_has ls 6 [(0, .int (nI u)), (1, .int (nI v))] := hl
  revert hB
  generalize s.heap = H
  generalize ([] : List Loc) = locs
  intro hB
  refine lv_iload_n hE.x hE.b dX8_commonDivisor_0 rfl (lv_at hl 0 rfl) ?_
  refine lv_istore_n (lv' := [(2, .int (nI u)), (0, .int (nI u)), (1, .int (nI v))]) hE.x hE.b dX8_commonDivisor_1 rfl hl (by decide) rfl (fun ls hl => ?_)
  refine lv_iload_n hE.x hE.b dX8_commonDivisor_2 rfl (lv_at hl 2 rfl) ?_
  refine lv_istore_n (lv' := [(3, .int (nI v)), (2, .int (nI u)), (0, .int (nI u)), (1, .int (nI v))]) hE.x hE.b dX8_commonDivisor_3 rfl hl (by decide) rfl (fun ls hl => ?_)
  refine lv_iconst (v := nI 0) hE.x hE.b dX8_commonDivisor_4 rfl ?_
  refine lv_istore (lv' := [(4, .int (nI 0)), (3, .int (nI v)), (2, .int (nI u)), (0, .int (nI u)), (1, .int (nI v))]) hE.x hE.b dX8_commonDivisor_5 hl (by decide) rfl (fun ls hl => ?_)
  have k7 : ∀ (fu : Nat) (x : Nat) (y : Nat) (r : Nat) (H : Heap) (locs : List Loc) (ls : Array Slot), y < fu → (x ≤ 60) → (y + r ≤ 60) → (Nat.gcd x y = Nat.gcd u v) → zB g s (X) H locs → lv_has ls 6 [(4, .int (nI r)), (3, .int (nI y)), (2, .int (nI x)), (0, .int (nI u)), (1, .int (nI v))] → W p l e { frames := 0, cells := 0, slots := 0, locals := 0 } s m args below meth c H locs 0 0 (MQ below (zQi g (fun r ws => r = nI (Nat.gcd u v) ∧ ws = X)) args s 0 0 (zA (gz g))) (F0 m 7 ls []) := by
    intro fu
    induction fu with
    | zero => intro x y r H locs ls hfu hx hy hg hB hl; exact absurd hfu (Nat.not_lt_zero _)
    | succ fu ih7 =>
      intro x y r H locs ls hfu hx hy hg hB hl
      refine lv_iload hE.x hE.b dX8_commonDivisor_7 (lv_at hl 0 rfl) ?_
      refine lv_bipush (v := (nI 64)) hE.x hE.b dX8_commonDivisor_9 rfl ?_
      refine z_ge (tgt := 34) (X := ((r : Nat) : Int)) (Y := (64 : Int)) hE dX8_commonDivisor_11 (by decide) (nI_toInt (n := r) (by omega)) rfl (fun c_1 => ?_) (fun c_1 => ?_)
      · have hy0 : y = 0 := by omega
        have hxg : x = Nat.gcd u v := by rw [← hg, hy0, Nat.gcd_zero_right]
        have hg0 : 0 < Nat.gcd u v := Nat.gcd_pos_of_pos_right u hv0
        refine lv_iload_n hE.x hE.b dX8_commonDivisor_34 rfl (lv_at hl 2 rfl) ?_
        refine z_le0 (tgt := 42) (X := ((x : Nat) : Int)) hE dX8_commonDivisor_35 (by decide) (nI_toInt (n := x) (by omega)) (fun c_2 => ?_) (fun c_2 => ?_)
        · exact absurd hg0 (by omega)
        · refine lv_iload_n hE.x hE.b dX8_commonDivisor_38 rfl (lv_at hl 2 rfl) ?_
          refine lv_goto (tgt := 43) hE.x hE.b dX8_commonDivisor_39 (by decide) ?_
          exact z_iret (v := (nI x)) (ws := X) hE hB hr (⟨by rw [hxg], rfl⟩) dX8_commonDivisor_43
      · refine lv_iload_n hE.x hE.b dX8_commonDivisor_14 rfl (lv_at hl 1 rfl) ?_
        refine z_le0 (tgt := 34) (X := ((y : Nat) : Int)) hE dX8_commonDivisor_15 (by decide) (nI_toInt (n := y) (by omega)) (fun c_3 => ?_) (fun c_3 => ?_)
        · have hy0 : y = 0 := by omega
          have hxg : x = Nat.gcd u v := by rw [← hg, hy0, Nat.gcd_zero_right]
          have hg0 : 0 < Nat.gcd u v := Nat.gcd_pos_of_pos_right u hv0
          refine lv_iload_n hE.x hE.b dX8_commonDivisor_34 rfl (lv_at hl 2 rfl) ?_
          refine z_le0 (tgt := 42) (X := ((x : Nat) : Int)) hE dX8_commonDivisor_35 (by decide) (nI_toInt (n := x) (by omega)) (fun c_4 => ?_) (fun c_4 => ?_)
          · exact absurd hg0 (by omega)
          · refine lv_iload_n hE.x hE.b dX8_commonDivisor_38 rfl (lv_at hl 2 rfl) ?_
            refine lv_goto (tgt := 43) hE.x hE.b dX8_commonDivisor_39 (by decide) ?_
            exact z_iret (v := (nI x)) (ws := X) hE hB hr (⟨by rw [hxg], rfl⟩) dX8_commonDivisor_43
        · have hyl : x % y < y := Nat.mod_lt _ (by omega)
          refine lv_iload_n hE.x hE.b dX8_commonDivisor_18 rfl (lv_at hl 2 rfl) ?_
          refine lv_iload_n hE.x hE.b dX8_commonDivisor_19 rfl (lv_at hl 1 rfl) ?_
          refine lv_irem hE.x hE.b dX8_commonDivisor_20 (nI_ne0 (by omega) (by omega)) ?_
          refine z_top (y := (nI (x % y))) (pk_rem (by omega) (by omega) (by omega)) ?_
          refine lv_istore (lv' := [(5, .int (nI (x % y))), (4, .int (nI r)), (3, .int (nI y)), (2, .int (nI x)), (0, .int (nI u)), (1, .int (nI v))]) hE.x hE.b dX8_commonDivisor_21 hl (by decide) rfl (fun ls hl => ?_)
          refine lv_iload_n hE.x hE.b dX8_commonDivisor_23 rfl (lv_at hl 2 rfl) ?_
          refine lv_istore_n (lv' := [(2, .int (nI y)), (5, .int (nI (x % y))), (4, .int (nI r)), (3, .int (nI y)), (0, .int (nI u)), (1, .int (nI v))]) hE.x hE.b dX8_commonDivisor_24 rfl hl (by decide) rfl (fun ls hl => ?_)
          refine lv_iload hE.x hE.b dX8_commonDivisor_25 (lv_at hl 1 rfl) ?_
          refine lv_istore_n (lv' := [(3, .int (nI (x % y))), (2, .int (nI y)), (5, .int (nI (x % y))), (4, .int (nI r)), (0, .int (nI u)), (1, .int (nI v))]) hE.x hE.b dX8_commonDivisor_27 rfl hl (by decide) rfl (fun ls hl => ?_)
          refine lv_iinc (v := (nI (r + 1))) (lv' := [(4, .int (nI (r + 1))), (3, .int (nI (x % y))), (2, .int (nI y)), (5, .int (nI (x % y))), (0, .int (nI u)), (1, .int (nI v))]) hE.x hE.b dX8_commonDivisor_28 hl (k := 3) rfl (nI_add _ _) (by decide) rfl (fun ls hl => ?_)
          refine lv_goto (tgt := 7) hE.x hE.b dX8_commonDivisor_31 (by decide) ?_
          exact ih7 y (x % y) (r + 1) _ _ _ (by omega) (by omega) (by omega) (gcd_st hg) hB (lv_sub hl [0, 1, 2, 4, 5] rfl)
  exact k7 (v + 1) u v 0 _ _ _ (Nat.lt_succ_self _) (by omega) (by omega) rfl hB hl

set_option maxHeartbeats 4000000 in
set_option maxRecDepth 100000 in
theorem c_X8_arePatient (l : Launch) (g : zG) (kk : Int32) (pp : Int32) (ac : Int32) (X : va_W)  : Met l yX8_arePatient (Cond.code yX8_arePatient cX8_arePatient 3 (some .boolean) :: TBL) { frames := 1, cells := 0, slots := 0, locals := 22 } (zPc [.int kk, .int pp, .int ac] g (X)) (zQi g (fun r ws => r = bI (patOK kk pp ac) ∧ ws = X)) 0 0 (zA (gz g)) := by
  refine z_start (by decide +kernel) rfl (Nat.le_of_ble_eq_true rfl) ?_
  intro p e s m args below meth c ls hE hr hnm hB hl
  have hl : lv_has ls 3 [(0, .int kk), (1, .int pp), (2, .int ac)] := hl
  revert hB
  generalize s.heap = H
  generalize ([] : List Loc) = locs
  intro hB
  refine lv_iload_n hE.x hE.b dX8_arePatient_0 rfl (lv_at hl 0 rfl) ?_
  refine lv_iconst (v := nI 0) hE.x hE.b dX8_arePatient_1 rfl ?_
  refine lv_bipush (v := (nI 99)) hE.x hE.b dX8_arePatient_2 rfl ?_
  refine z_qi hB (z_cS hE hB (c_X8_within l g kk (nI 0) (nI 99) kk.toInt (0 : Int) (99 : Int) (X) rfl rfl rfl) q1_123 kX8_within ⟨rfl, rfl⟩ ⟨Nat.le_of_ble_eq_true rfl, Nat.le_of_ble_eq_true rfl⟩ rfl hl.1 rfl (Nat.le_of_ble_eq_true rfl) dX8_arePatient_4 ⟨Nat.le_of_ble_eq_true rfl, Nat.le_of_ble_eq_true rfl⟩) (fun r_1 w_2 H locs hw hB => ?_)
  obtain ⟨hr9, hw9⟩ := hw
  have hr9 := hr9.symm
  subst hr9
  have hw9 := hw9.symm
  subst hw9
  refine z_bf (b := (inZ (0 : Int) (99 : Int) kk.toInt)) (tgt := 34) hE dX8_arePatient_7 (by decide) (fun c_3 => ?_) (fun c_3 => ?_)
  · refine lv_iconst (v := nI 0) hE.x hE.b dX8_arePatient_34 rfl ?_
    exact z_bret (b := false) (ws := X) hE hB hr (⟨congrArg bI (by unfold patOK pIn; simp [c_3]), rfl⟩) dX8_arePatient_35
  · refine lv_iload_n hE.x hE.b dX8_arePatient_10 rfl (lv_at hl 1 rfl) ?_
    refine lv_iconst (v := nI 0) hE.x hE.b dX8_arePatient_11 rfl ?_
    refine lv_bipush (v := (nI 99)) hE.x hE.b dX8_arePatient_12 rfl ?_
    refine z_qi hB (z_cS hE hB (c_X8_within l g pp (nI 0) (nI 99) pp.toInt (0 : Int) (99 : Int) (X) rfl rfl rfl) q1_123 kX8_within ⟨rfl, rfl⟩ ⟨Nat.le_of_ble_eq_true rfl, Nat.le_of_ble_eq_true rfl⟩ rfl hl.1 rfl (Nat.le_of_ble_eq_true rfl) dX8_arePatient_14 ⟨Nat.le_of_ble_eq_true rfl, Nat.le_of_ble_eq_true rfl⟩) (fun r_4 w_5 H locs hw hB => ?_)
    obtain ⟨hr9, hw9⟩ := hw
    have hr9 := hr9.symm
    subst hr9
    have hw9 := hw9.symm
    subst hw9
    refine z_bf (b := (inZ (0 : Int) (99 : Int) pp.toInt)) (tgt := 34) hE dX8_arePatient_17 (by decide) (fun c_6 => ?_) (fun c_6 => ?_)
    · refine lv_iconst (v := nI 0) hE.x hE.b dX8_arePatient_34 rfl ?_
      exact z_bret (b := false) (ws := X) hE hB hr (⟨congrArg bI (by unfold patOK pIn; simp [c_3, c_6]), rfl⟩) dX8_arePatient_35
    · refine lv_iload_n hE.x hE.b dX8_arePatient_20 rfl (lv_at hl 2 rfl) ?_
      refine lv_iconst (v := nI 0) hE.x hE.b dX8_arePatient_21 rfl ?_
      refine lv_bipush (v := (nI 63)) hE.x hE.b dX8_arePatient_22 rfl ?_
      refine z_qi hB (z_cS hE hB (c_X8_within l g ac (nI 0) (nI 63) ac.toInt (0 : Int) (63 : Int) (X) rfl rfl rfl) q1_123 kX8_within ⟨rfl, rfl⟩ ⟨Nat.le_of_ble_eq_true rfl, Nat.le_of_ble_eq_true rfl⟩ rfl hl.1 rfl (Nat.le_of_ble_eq_true rfl) dX8_arePatient_24 ⟨Nat.le_of_ble_eq_true rfl, Nat.le_of_ble_eq_true rfl⟩) (fun r_7 w_8 H locs hw hB => ?_)
      obtain ⟨hr9, hw9⟩ := hw
      have hr9 := hr9.symm
      subst hr9
      have hw9 := hw9.symm
      subst hw9
      refine z_bf (b := (inZ (0 : Int) (63 : Int) ac.toInt)) (tgt := 34) hE dX8_arePatient_27 (by decide) (fun c_9 => ?_) (fun c_9 => ?_)
      · refine lv_iconst (v := nI 0) hE.x hE.b dX8_arePatient_34 rfl ?_
        exact z_bret (b := false) (ws := X) hE hB hr (⟨congrArg bI (by unfold patOK pIn; simp [c_3, c_6, c_9]), rfl⟩) dX8_arePatient_35
      · refine lv_iconst (v := nI 1) hE.x hE.b dX8_arePatient_30 rfl ?_
        refine lv_goto (tgt := 35) hE.x hE.b dX8_arePatient_31 (by decide) ?_
        exact z_bret (b := true) (ws := X) hE hB hr (⟨congrArg bI (by unfold patOK pIn; simp [c_3, c_6, c_9]), rfl⟩) dX8_arePatient_35

set_option maxHeartbeats 4000000 in
set_option maxRecDepth 100000 in
theorem c_X4_hasTown (l : Launch) (g : zG) (b : Nat) (a : Nat → Nat) (T : Nat) (C : Nat) (U : Nat) (V : Nat) (rd : Nat → Int32) (ro : Nat → Int32) (lw : Nat → Option Nat) (pl : Nat → Option Nat) (pc : Nat → Int32) (gv : Nat → Int32) (aw : Nat → Int32) (nt : Nat → Int32) (t : Int32) (X : va_W) (hTb : T < 2147483648) : Met l yX4_hasTown (Cond.code yX4_hasTown cX4_hasTown 2 (some .boolean) :: TBL) { frames := 0, cells := 0, slots := 0, locals := 0 } (zPc [.ref b, .int t] g (lW g b a (nI T) (nI C) (nI U) (nI V) rd ro lw pl pc gv aw nt ++ X)) (zQi g (fun r ws => r = bI (pTown T t) ∧ ws = lW g b a (nI T) (nI C) (nI U) (nI V) rd ro lw pl pc gv aw nt ++ X)) 0 0 (zA (gz g)) := by
  refine z_start (by decide +kernel) rfl (Nat.le_of_ble_eq_true rfl) ?_
  intro p e s m args below meth c ls hE hr hnm hB hl
  have hl : lv_has ls 2 [(0, .ref b), (1, .int t)] := hl
  revert hB
  generalize s.heap = H
  generalize ([] : List Loc) = locs
  intro hB
  refine lv_iload_n hE.x hE.b dX4_hasTown_0 rfl (lv_at hl 1 rfl) ?_
  refine z_lt0 (tgt := 16) (X := t.toInt) hE dX4_hasTown_1 (by decide) rfl (fun c_1 => ?_) (fun c_1 => ?_)
  · refine lv_iconst (v := nI 0) hE.x hE.b dX4_hasTown_16 rfl ?_
    exact z_bret (b := false) (ws := lW g b a (nI T) (nI C) (nI U) (nI V) rd ro lw pl pc gv aw nt ++ X) hE hB hr (⟨bI_decF (by omega), rfl⟩) dX4_hasTown_17
  · refine lv_iload_n hE.x hE.b dX4_hasTown_4 rfl (lv_at hl 1 rfl) ?_
    refine lv_aload_n hE.x hE.b dX4_hasTown_5 rfl (lv_at hl 0 rfl) ?_
    refine z_get (v := .int (nI T)) hE hB inX4 0 rfl rfl 0 (by decide) q1_33 (fun _ h9 => h9) rfl dX4_hasTown_6 ?_
    refine z_ge (tgt := 16) (X := t.toInt) (Y := ((T : Nat) : Int)) hE dX4_hasTown_9 (by decide) rfl (nI_toInt (n := T) (by omega)) (fun c_2 => ?_) (fun c_2 => ?_)
    · refine lv_iconst (v := nI 0) hE.x hE.b dX4_hasTown_16 rfl ?_
      exact z_bret (b := false) (ws := lW g b a (nI T) (nI C) (nI U) (nI V) rd ro lw pl pc gv aw nt ++ X) hE hB hr (⟨bI_decF (by omega), rfl⟩) dX4_hasTown_17
    · refine lv_iconst (v := nI 1) hE.x hE.b dX4_hasTown_12 rfl ?_
      refine lv_goto (tgt := 17) hE.x hE.b dX4_hasTown_13 (by decide) ?_
      exact z_bret (b := true) (ws := lW g b a (nI T) (nI C) (nI U) (nI V) rd ro lw pl pc gv aw nt ++ X) hE hB hr (⟨bI_decT (by omega), rfl⟩) dX4_hasTown_17

set_option maxHeartbeats 4000000 in
set_option maxRecDepth 100000 in
theorem c_X4_addTown (l : Launch) (g : zG) (b : Nat) (a : Nat → Nat) (T : Nat) (C : Nat) (U : Nat) (V : Nat) (rd : Nat → Int32) (ro : Nat → Int32) (lw : Nat → Option Nat) (pl : Nat → Option Nat) (pc : Nat → Int32) (gv : Nat → Int32) (aw : Nat → Int32) (nt : Nat → Int32) (r : Int32) (X : va_W) (hT6 : T < 6) : Met l yX4_addTown (Cond.code yX4_addTown cX4_addTown 2 none :: TBL) { frames := 0, cells := 0, slots := 0, locals := 0 } (zPc [.ref b, .int r] g (lW g b a (nI T) (nI C) (nI U) (nI V) rd ro lw pl pc gv aw nt ++ X)) (zQv g (fun ws => ws = lW g b a (nI (T + 1)) (nI C) (nI U) (nI V) (upd rd T r) ro lw pl pc gv aw nt ++ X)) 0 0 (zA (gz g)) := by
  refine z_start (by decide +kernel) rfl (Nat.le_of_ble_eq_true rfl) ?_
  intro p e s m args below meth c ls hE hr hnm hB hl
  have hl : lv_has ls 2 [(0, .ref b), (1, .int r)] := hl
  revert hB
  generalize s.heap = H
  generalize ([] : List Loc) = locs
  intro hB
  refine lv_aload_n hE.x hE.b dX4_addTown_0 rfl (lv_at hl 0 rfl) ?_
  refine z_get (v := .ref (a 0)) hE hB inX4 0 rfl rfl 4 (by decide) q1_43 (fun _ h9 => h9) rfl dX4_addTown_1 ?_
  refine lv_aload_n hE.x hE.b dX4_addTown_4 rfl (lv_at hl 0 rfl) ?_
  refine z_get (v := .int (nI T)) hE hB inX4 0 rfl rfl 0 (by decide) q1_33 (fun _ h9 => h9) rfl dX4_addTown_5 ?_
  refine lv_iload_n hE.x hE.b dX4_addTown_8 rfl (lv_at hl 1 rfl) ?_
  refine z_iast (k := T) (f := rd) (x := r) (ws' := lW g b a (nI T) (nI C) (nI U) (nI V) (upd rd T r) ro lw pl pc gv aw nt ++ X) hE hB 1 rfl (by omega) (by decide) rfl dX4_addTown_9 (fun H locs hB => ?_)
  refine lv_aload_n hE.x hE.b dX4_addTown_10 rfl (lv_at hl 0 rfl) ?_
  refine lv_dup hE.x hE.b dX4_addTown_11 rfl ?_
  refine z_get (v := .int (nI T)) hE hB inX4 0 rfl rfl 0 (by decide) q1_33 (fun _ h9 => h9) rfl dX4_addTown_12 ?_
  refine lv_iconst (v := nI 1) hE.x hE.b dX4_addTown_15 rfl ?_
  refine z_iaddN hE dX4_addTown_16 ?_
  refine z_put (v := .int (nI (T + 1))) (ty := .int) (ws' := lW g b a (nI (T + 1)) (nI C) (nI U) (nI V) (upd rd T r) ro lw pl pc gv aw nt ++ X) hE hB inX4 tyX4 tyX4_ok nmX4 0 rfl rfl 0 (by decide) q1_33 (fun _ h9 => h9) rfl (by decide +kernel) rfl rfl (Nat.le_of_ble_eq_true rfl) rfl dX4_addTown_17 (fun H locs hB => ?_)
  exact z_vret (ws := lW g b a (nI (T + 1)) (nI C) (nI U) (nI V) (upd rd T r) ro lw pl pc gv aw nt ++ X) hE hB hr (rfl) dX4_addTown_20

set_option maxHeartbeats 4000000 in
set_option maxRecDepth 100000 in
theorem c_X4_roadDays (l : Launch) (g : zG) (b : Nat) (a : Nat → Nat) (T : Nat) (C : Nat) (U : Nat) (V : Nat) (rd : Nat → Int32) (ro : Nat → Int32) (lw : Nat → Option Nat) (pl : Nat → Option Nat) (pc : Nat → Int32) (gv : Nat → Int32) (aw : Nat → Int32) (nt : Nat → Int32) (i : Nat) (j : Nat) (n : Nat → Int32) (B : va_W) (X : va_W) (hn : nOK n T C V U) (hrel : relL n T C U V rd ro lw pl pc gv B) (hBX : ∀ x ∈ B, x ∈ X) (hi : i < 6) (hj : j < 6) : Met l yX4_roadDays (Cond.code yX4_roadDays cX4_roadDays 3 (some .int) :: TBL) { frames := 0, cells := 0, slots := 0, locals := 0 } (zPc [.ref b, .int (nI i), .int (nI j)] g (lW g b a (nI T) (nI C) (nI U) (nI V) rd ro lw pl pc gv aw nt ++ X)) (zQi g (fun r ws => r = nI (rwE n (6 * i + j)) ∧ ws = lW g b a (nI T) (nI C) (nI U) (nI V) rd ro lw pl pc gv aw nt ++ X)) 0 0 (zA (gz g)) := by
  refine z_start (by decide +kernel) rfl (Nat.le_of_ble_eq_true rfl) ?_
  intro p e s m args below meth c ls hE hr hnm hB hl
  have hl : lv_has ls 3 [(0, .ref b), (1, .int (nI i)), (2, .int (nI j))] := hl
  revert hB
  generalize s.heap = H
  generalize ([] : List Loc) = locs
  intro hB
  refine lv_aload_n hE.x hE.b dX4_roadDays_0 rfl (lv_at hl 0 rfl) ?_
  refine z_get (v := .ref (a 1)) hE hB inX4 0 rfl rfl 5 (by decide) q1_44 (fun _ h9 => h9) rfl dX4_roadDays_1 ?_
  refine lv_bipush (v := (nI 6)) hE.x hE.b dX4_roadDays_4 rfl ?_
  refine lv_iload_n hE.x hE.b dX4_roadDays_6 rfl (lv_at hl 1 rfl) ?_
  refine z_imulN hE dX4_roadDays_7 ?_
  refine lv_iload_n hE.x hE.b dX4_roadDays_8 rfl (lv_at hl 2 rfl) ?_
  refine z_iaddN hE dX4_roadDays_9 ?_
  refine z_iald (k := ((6 * i) + j)) (f := ro) hE hB 2 rfl (by omega) (by decide) dX4_roadDays_10 ?_
  refine z_top (y := (nI (rwE n (6 * i + j)))) (by rw [hrel.2.1 _ (by omega), ← Nat.add_assoc]; exact rwE_v hn hi hj) ?_
  exact z_iret (v := (nI (rwE n (6 * i + j)))) (ws := lW g b a (nI T) (nI C) (nI U) (nI V) rd ro lw pl pc gv aw nt ++ X) hE hB hr (⟨rfl, rfl⟩) dX4_roadDays_11

set_option maxHeartbeats 4000000 in
set_option maxRecDepth 100000 in
theorem c_X4_setRoad (l : Launch) (g : zG) (b : Nat) (a : Nat → Nat) (T : Nat) (C : Nat) (U : Nat) (V : Nat) (rd : Nat → Int32) (ro : Nat → Int32) (lw : Nat → Option Nat) (pl : Nat → Option Nat) (pc : Nat → Int32) (gv : Nat → Int32) (aw : Nat → Int32) (nt : Nat → Int32) (i : Nat) (j : Nat) (d : Int32) (X : va_W) (hi : i < 6) (hj : j < 6) : Met l yX4_setRoad (Cond.code yX4_setRoad cX4_setRoad 4 none :: TBL) { frames := 0, cells := 0, slots := 0, locals := 0 } (zPc [.ref b, .int (nI i), .int (nI j), .int d] g (lW g b a (nI T) (nI C) (nI U) (nI V) rd ro lw pl pc gv aw nt ++ X)) (zQv g (fun ws => ws = lW g b a (nI T) (nI C) (nI U) (nI V) rd (upd (upd ro (6 * i + j) d) (6 * j + i) d) lw pl pc gv aw nt ++ X)) 0 0 (zA (gz g)) := by
  refine z_start (by decide +kernel) rfl (Nat.le_of_ble_eq_true rfl) ?_
  intro p e s m args below meth c ls hE hr hnm hB hl
  have hl : lv_has ls 4 [(0, .ref b), (1, .int (nI i)), (2, .int (nI j)), (3, .int d)] := hl
  revert hB
  generalize s.heap = H
  generalize ([] : List Loc) = locs
  intro hB
  refine lv_aload_n hE.x hE.b dX4_setRoad_0 rfl (lv_at hl 0 rfl) ?_
  refine z_get (v := .ref (a 1)) hE hB inX4 0 rfl rfl 5 (by decide) q1_44 (fun _ h9 => h9) rfl dX4_setRoad_1 ?_
  refine lv_bipush (v := (nI 6)) hE.x hE.b dX4_setRoad_4 rfl ?_
  refine lv_iload_n hE.x hE.b dX4_setRoad_6 rfl (lv_at hl 1 rfl) ?_
  refine z_imulN hE dX4_setRoad_7 ?_
  refine lv_iload_n hE.x hE.b dX4_setRoad_8 rfl (lv_at hl 2 rfl) ?_
  refine z_iaddN hE dX4_setRoad_9 ?_
  refine lv_iload_n hE.x hE.b dX4_setRoad_10 rfl (lv_at hl 3 rfl) ?_
  refine z_iast (k := ((6 * i) + j)) (f := ro) (x := d) (ws' := lW g b a (nI T) (nI C) (nI U) (nI V) rd (upd ro ((6 * i) + j) d) lw pl pc gv aw nt ++ X) hE hB 2 rfl (by omega) (by decide) rfl dX4_setRoad_11 (fun H locs hB => ?_)
  refine lv_aload_n hE.x hE.b dX4_setRoad_12 rfl (lv_at hl 0 rfl) ?_
  refine z_get (v := .ref (a 1)) hE hB inX4 0 rfl rfl 5 (by decide) q1_44 (fun _ h9 => h9) rfl dX4_setRoad_13 ?_
  refine lv_bipush (v := (nI 6)) hE.x hE.b dX4_setRoad_16 rfl ?_
  refine lv_iload_n hE.x hE.b dX4_setRoad_18 rfl (lv_at hl 2 rfl) ?_
  refine z_imulN hE dX4_setRoad_19 ?_
  refine lv_iload_n hE.x hE.b dX4_setRoad_20 rfl (lv_at hl 1 rfl) ?_
  refine z_iaddN hE dX4_setRoad_21 ?_
  refine lv_iload_n hE.x hE.b dX4_setRoad_22 rfl (lv_at hl 3 rfl) ?_
  refine z_iast (k := ((6 * j) + i)) (f := (upd ro ((6 * i) + j) d)) (x := d) (ws' := lW g b a (nI T) (nI C) (nI U) (nI V) rd (upd (upd ro ((6 * i) + j) d) ((6 * j) + i) d) lw pl pc gv aw nt ++ X) hE hB 2 rfl (by omega) (by decide) rfl dX4_setRoad_23 (fun H locs hB => ?_)
  exact z_vret (ws := lW g b a (nI T) (nI C) (nI U) (nI V) rd (upd (upd ro ((6 * i) + j) d) ((6 * j) + i) d) lw pl pc gv aw nt ++ X) hE hB hr (rfl) dX4_setRoad_24

set_option maxHeartbeats 4000000 in
set_option maxRecDepth 100000 in
theorem c_X4_addClause (l : Launch) (g : zG) (b : Nat) (a : Nat → Nat) (T : Nat) (C : Nat) (U : Nat) (V : Nat) (rd : Nat → Int32) (ro : Nat → Int32) (lw : Nat → Option Nat) (pl : Nat → Option Nat) (pc : Nat → Int32) (gv : Nat → Int32) (aw : Nat → Int32) (nt : Nat → Int32) (q : Nat) (X : va_W) (hC8 : C < 8) (hq : ∃ k A F E W, k ≤ 5 ∧ (q, bE k A F E W) ∈ X) : Met l yX4_addClause (Cond.code yX4_addClause cX4_addClause 2 none :: TBL) { frames := 0, cells := 0, slots := 0, locals := 0 } (zPc [.ref b, .ref q] g (lW g b a (nI T) (nI C) (nI U) (nI V) rd ro lw pl pc gv aw nt ++ X)) (zQv g (fun ws => ws = lW g b a (nI T) (nI (C + 1)) (nI U) (nI V) rd ro (va_up lw C (some q)) pl pc gv aw nt ++ X)) 0 0 (zA (gz g)) := by
  refine z_start (by decide +kernel) rfl (Nat.le_of_ble_eq_true rfl) ?_
  intro p e s m args below meth c ls hE hr hnm hB hl
  have hl : lv_has ls 2 [(0, .ref b), (1, .ref q)] := hl
  revert hB
  generalize s.heap = H
  generalize ([] : List Loc) = locs
  intro hB
  refine lv_aload_n hE.x hE.b dX4_addClause_0 rfl (lv_at hl 0 rfl) ?_
  refine z_get (v := .ref (a 2)) hE hB inX4 0 rfl rfl 6 (by decide) q1_45 (fun _ h9 => h9) rfl dX4_addClause_1 ?_
  refine lv_aload_n hE.x hE.b dX4_addClause_4 rfl (lv_at hl 0 rfl) ?_
  refine z_get (v := .int (nI C)) hE hB inX4 0 rfl rfl 1 (by decide) q1_36 (fun _ h9 => h9) rfl dX4_addClause_5 ?_
  refine lv_aload_n hE.x hE.b dX4_addClause_8 rfl (lv_at hl 1 rfl) ?_
  refine z_nast (k := C) (f := lw) (v := (some q)) (ws' := lW g b a (nI T) (nI C) (nI U) (nI V) rd ro (va_up lw C (some q)) pl pc gv aw nt ++ X) hE hB 3 rfl (by omega) (by decide) (fun q9 h9 => by cases h9; obtain ⟨k9, A9, F9, E9, W9, h5, h6⟩ := hq; exact ⟨k9, A9, F9, E9, W9, h5, List.mem_append_right _ h6⟩) rfl dX4_addClause_9 (fun H locs hB => ?_)
  refine lv_aload_n hE.x hE.b dX4_addClause_10 rfl (lv_at hl 0 rfl) ?_
  refine lv_dup hE.x hE.b dX4_addClause_11 rfl ?_
  refine z_get (v := .int (nI C)) hE hB inX4 0 rfl rfl 1 (by decide) q1_36 (fun _ h9 => h9) rfl dX4_addClause_12 ?_
  refine lv_iconst (v := nI 1) hE.x hE.b dX4_addClause_15 rfl ?_
  refine z_iaddN hE dX4_addClause_16 ?_
  refine z_put (v := .int (nI (C + 1))) (ty := .int) (ws' := lW g b a (nI T) (nI (C + 1)) (nI U) (nI V) rd ro (va_up lw C (some q)) pl pc gv aw nt ++ X) hE hB inX4 tyX4 tyX4_ok nmX4 0 rfl rfl 1 (by decide) q1_36 (fun _ h9 => h9) rfl (by decide +kernel) rfl rfl (Nat.le_of_ble_eq_true rfl) rfl dX4_addClause_17 (fun H locs hB => ?_)
  exact z_vret (ws := lW g b a (nI T) (nI (C + 1)) (nI U) (nI V) rd ro (va_up lw C (some q)) pl pc gv aw nt ++ X) hE hB hr (rfl) dX4_addClause_20

set_option maxHeartbeats 4000000 in
set_option maxRecDepth 100000 in
theorem c_X4_mixedClause (l : Launch) (g : zG) (h : Int64) (q : Nat) (k : Nat) (A : Int32) (F : Int32) (E : Int32) (W9 : Int32) (X : va_W) (hk : k ≤ 5) (hm : (q, bE k A F E W9) ∈ X) : Met l yX4_mixedClause (Cond.code yX4_mixedClause cX4_mixedClause 5 (some .long) :: TBL) { frames := 1, cells := 0, slots := 0, locals := 23 } (zPc [.long h, .ref q] g (X)) (zQl g (fun r ws => r = (lN 31 * (lN 31 * (lN 31 * (lN 31 * (lN 31 * h + lN k) + A.toInt64) + F.toInt64) + E.toInt64) + W9.toInt64) ∧ ws = X)) 0 0 (zA (gz g)) := by
  refine z_start (by decide +kernel) rfl (Nat.le_of_ble_eq_true rfl) ?_
  intro p e s m args below meth c ls hE hr hnm hB hl
  have hl : lv_has ls 5 [(0, .long h), (2, .ref q)] := hl
  revert hB
  generalize s.heap = H
  generalize ([] : List Loc) = locs
  intro hB
  refine lv_aload_n hE.x hE.b dX4_mixedClause_0 rfl (lv_at hl 1 rfl) ?_
  refine lv_ifnonnull (tgt := 6) hE.x hE.b dX4_mixedClause_1 (by decide) ?_
  refine lv_lload_n hE.x hE.b dX4_mixedClause_6 rfl (lv_at hl 0 rfl) ?_
  refine lv_aload_n hE.x hE.b dX4_mixedClause_7 rfl (lv_at hl 1 rfl) ?_
  refine z_getb (v := .int (nI k)) hE hB hk hm 0 (by decide) q1_182 (fun _ h9 => h9) rfl dX4_mixedClause_8 ?_
  refine lv_i2l (v := lN k) hE.x hE.b dX4_mixedClause_11 (nI_l (by omega)) ?_
  refine z_ql hB (z_cSN hE hB (c_X8_mixed l g h (lN k) (X)) hE.2.1.2.1.2.2.2.2.2.2 kX8_mixed ⟨rfl, rfl⟩ ⟨Nat.le_of_ble_eq_true rfl, Nat.le_of_ble_eq_true rfl⟩ rfl hl.1 rfl (Nat.le_of_ble_eq_true rfl) dX4_mixedClause_12 ⟨Nat.le_of_ble_eq_true rfl, Nat.le_of_ble_eq_true rfl⟩) (fun r_1 w_2 H locs hw hB => ?_)
  obtain ⟨hr9, hw9⟩ := hw
  have hr9 := hr9.symm
  subst hr9
  have hw9 := hw9.symm
  subst hw9
  refine lv_lstore_n (lv' := [(3, .long (lN 31 * h + (lN k))), (0, .long h), (2, .ref q)]) hE.x hE.b dX4_mixedClause_15 rfl hl (by decide) rfl (fun ls hl => ?_)
  refine lv_lload_n hE.x hE.b dX4_mixedClause_16 rfl (lv_at hl 0 rfl) ?_
  refine lv_aload_n hE.x hE.b dX4_mixedClause_17 rfl (lv_at hl 2 rfl) ?_
  refine z_getb (v := .int A) hE hB hk hm 1 (by decide) q1_185 (fun _ h9 => h9) rfl dX4_mixedClause_18 ?_
  refine lv_i2l hE.x hE.b dX4_mixedClause_21 rfl ?_
  refine z_ql hB (z_cSN hE hB (c_X8_mixed l g (lN 31 * h + (lN k)) (Int32.toInt64 A) (X)) hE.2.1.2.1.2.2.2.2.2.2 kX8_mixed ⟨rfl, rfl⟩ ⟨Nat.le_of_ble_eq_true rfl, Nat.le_of_ble_eq_true rfl⟩ rfl hl.1 rfl (Nat.le_of_ble_eq_true rfl) dX4_mixedClause_22 ⟨Nat.le_of_ble_eq_true rfl, Nat.le_of_ble_eq_true rfl⟩) (fun r_3 w_4 H locs hw hB => ?_)
  obtain ⟨hr9, hw9⟩ := hw
  have hr9 := hr9.symm
  subst hr9
  have hw9 := hw9.symm
  subst hw9
  refine lv_lstore_n (lv' := [(3, .long (lN 31 * (lN 31 * h + (lN k)) + (Int32.toInt64 A))), (0, .long h), (2, .ref q)]) hE.x hE.b dX4_mixedClause_25 rfl hl (by decide) rfl (fun ls hl => ?_)
  refine lv_lload_n hE.x hE.b dX4_mixedClause_26 rfl (lv_at hl 0 rfl) ?_
  refine lv_aload_n hE.x hE.b dX4_mixedClause_27 rfl (lv_at hl 2 rfl) ?_
  refine z_getb (v := .int F) hE hB hk hm 2 (by decide) q1_190 (fun _ h9 => h9) rfl dX4_mixedClause_28 ?_
  refine lv_i2l hE.x hE.b dX4_mixedClause_31 rfl ?_
  refine z_ql hB (z_cSN hE hB (c_X8_mixed l g (lN 31 * (lN 31 * h + (lN k)) + (Int32.toInt64 A)) (Int32.toInt64 F) (X)) hE.2.1.2.1.2.2.2.2.2.2 kX8_mixed ⟨rfl, rfl⟩ ⟨Nat.le_of_ble_eq_true rfl, Nat.le_of_ble_eq_true rfl⟩ rfl hl.1 rfl (Nat.le_of_ble_eq_true rfl) dX4_mixedClause_32 ⟨Nat.le_of_ble_eq_true rfl, Nat.le_of_ble_eq_true rfl⟩) (fun r_5 w_6 H locs hw hB => ?_)
  obtain ⟨hr9, hw9⟩ := hw
  have hr9 := hr9.symm
  subst hr9
  have hw9 := hw9.symm
  subst hw9
  refine lv_lstore_n (lv' := [(3, .long (lN 31 * (lN 31 * (lN 31 * h + (lN k)) + (Int32.toInt64 A)) + (Int32.toInt64 F))), (0, .long h), (2, .ref q)]) hE.x hE.b dX4_mixedClause_35 rfl hl (by decide) rfl (fun ls hl => ?_)
  refine lv_lload_n hE.x hE.b dX4_mixedClause_36 rfl (lv_at hl 0 rfl) ?_
  refine lv_aload_n hE.x hE.b dX4_mixedClause_37 rfl (lv_at hl 2 rfl) ?_
  refine z_getb (v := .int E) hE hB hk hm 3 (by decide) q1_195 (fun _ h9 => h9) rfl dX4_mixedClause_38 ?_
  refine lv_i2l hE.x hE.b dX4_mixedClause_41 rfl ?_
  refine z_ql hB (z_cSN hE hB (c_X8_mixed l g (lN 31 * (lN 31 * (lN 31 * h + (lN k)) + (Int32.toInt64 A)) + (Int32.toInt64 F)) (Int32.toInt64 E) (X)) hE.2.1.2.1.2.2.2.2.2.2 kX8_mixed ⟨rfl, rfl⟩ ⟨Nat.le_of_ble_eq_true rfl, Nat.le_of_ble_eq_true rfl⟩ rfl hl.1 rfl (Nat.le_of_ble_eq_true rfl) dX4_mixedClause_42 ⟨Nat.le_of_ble_eq_true rfl, Nat.le_of_ble_eq_true rfl⟩) (fun r_7 w_8 H locs hw hB => ?_)
  obtain ⟨hr9, hw9⟩ := hw
  have hr9 := hr9.symm
  subst hr9
  have hw9 := hw9.symm
  subst hw9
  refine lv_lstore_n (lv' := [(3, .long (lN 31 * (lN 31 * (lN 31 * (lN 31 * h + (lN k)) + (Int32.toInt64 A)) + (Int32.toInt64 F)) + (Int32.toInt64 E))), (0, .long h), (2, .ref q)]) hE.x hE.b dX4_mixedClause_45 rfl hl (by decide) rfl (fun ls hl => ?_)
  refine lv_lload_n hE.x hE.b dX4_mixedClause_46 rfl (lv_at hl 0 rfl) ?_
  refine lv_aload_n hE.x hE.b dX4_mixedClause_47 rfl (lv_at hl 2 rfl) ?_
  refine z_getb (v := .int W9) hE hB hk hm 4 (by decide) q1_200 (fun _ h9 => h9) rfl dX4_mixedClause_48 ?_
  refine lv_i2l hE.x hE.b dX4_mixedClause_51 rfl ?_
  refine z_ql hB (z_cSN hE hB (c_X8_mixed l g (lN 31 * (lN 31 * (lN 31 * (lN 31 * h + (lN k)) + (Int32.toInt64 A)) + (Int32.toInt64 F)) + (Int32.toInt64 E)) (Int32.toInt64 W9) (X)) hE.2.1.2.1.2.2.2.2.2.2 kX8_mixed ⟨rfl, rfl⟩ ⟨Nat.le_of_ble_eq_true rfl, Nat.le_of_ble_eq_true rfl⟩ rfl hl.1 rfl (Nat.le_of_ble_eq_true rfl) dX4_mixedClause_52 ⟨Nat.le_of_ble_eq_true rfl, Nat.le_of_ble_eq_true rfl⟩) (fun r_9 w_10 H locs hw hB => ?_)
  obtain ⟨hr9, hw9⟩ := hw
  have hr9 := hr9.symm
  subst hr9
  have hw9 := hw9.symm
  subst hw9
  exact z_lret (v := (lN 31 * (lN 31 * (lN 31 * (lN 31 * (lN 31 * h + (lN k)) + (Int32.toInt64 A)) + (Int32.toInt64 F)) + (Int32.toInt64 E)) + (Int32.toInt64 W9))) (ws := X) hE hB hr (⟨rfl, rfl⟩) dX4_mixedClause_55

theorem dX4_speaking_0 : decode cX4_speaking 0 = .ok (.iconst 0, 1) := by decide +kernel
theorem dX4_speaking_1 : decode cX4_speaking 1 = .ok (.istore 5, 2) := by decide +kernel
theorem dX4_speaking_3 : decode cX4_speaking 3 = .ok (.iconst 0, 1) := by decide +kernel
theorem dX4_speaking_4 : decode cX4_speaking 4 = .ok (.istore 6, 2) := by decide +kernel
theorem dX4_speaking_6 : decode cX4_speaking 6 = .ok (.iload 6, 2) := by decide +kernel
theorem dX4_speaking_8 : decode cX4_speaking 8 = .ok (.aload_n 0, 1) := by decide +kernel
theorem dX4_speaking_9 : decode cX4_speaking 9 = .ok (.getfield 43, 3) := by decide +kernel
theorem dX4_speaking_12 : decode cX4_speaking 12 = .ok (.if_icmp .ge 78, 3) := by decide +kernel
theorem dX4_speaking_15 : decode cX4_speaking 15 = .ok (.aload_n 0, 1) := by decide +kernel
theorem dX4_speaking_16 : decode cX4_speaking 16 = .ok (.getfield 20, 3) := by decide +kernel
theorem dX4_speaking_19 : decode cX4_speaking 19 = .ok (.iload 6, 2) := by decide +kernel
theorem dX4_speaking_21 : decode cX4_speaking 21 = .ok (.aaload, 1) := by decide +kernel
theorem dX4_speaking_22 : decode cX4_speaking 22 = .ok (.astore 7, 2) := by decide +kernel
theorem dX4_speaking_24 : decode cX4_speaking 24 = .ok (.aload 7, 2) := by decide +kernel
theorem dX4_speaking_26 : decode cX4_speaking 26 = .ok (.ifnull 58, 3) := by decide +kernel
theorem dX4_speaking_29 : decode cX4_speaking 29 = .ok (.aload 7, 2) := by decide +kernel
theorem dX4_speaking_31 : decode cX4_speaking 31 = .ok (.getfield 77, 3) := by decide +kernel
theorem dX4_speaking_34 : decode cX4_speaking 34 = .ok (.iload_n 2, 1) := by decide +kernel
theorem dX4_speaking_35 : decode cX4_speaking 35 = .ok (.if_icmp .ne 49, 3) := by decide +kernel
theorem dX4_speaking_38 : decode cX4_speaking 38 = .ok (.iload_n 3, 1) := by decide +kernel
theorem dX4_speaking_39 : decode cX4_speaking 39 = .ok (.aload 7, 2) := by decide +kernel
theorem dX4_speaking_41 : decode cX4_speaking 41 = .ok (.getfield 80, 3) := by decide +kernel
theorem dX4_speaking_44 : decode cX4_speaking 44 = .ok (.if_icmp .lt 40, 3) := by decide +kernel
theorem dX4_speaking_47 : decode cX4_speaking 47 = .ok (.iload_n 3, 1) := by decide +kernel
theorem dX4_speaking_48 : decode cX4_speaking 48 = .ok (.aload 7, 2) := by decide +kernel
theorem dX4_speaking_50 : decode cX4_speaking 50 = .ok (.invokevirtual 83, 3) := by decide +kernel
theorem dX4_speaking_53 : decode cX4_speaking 53 = .ok (.if_icmp .ge 31, 3) := by decide +kernel
theorem dX4_speaking_56 : decode cX4_speaking 56 = .ok (.aload 7, 2) := by decide +kernel
theorem dX4_speaking_58 : decode cX4_speaking 58 = .ok (.iload_n 1, 1) := by decide +kernel
theorem dX4_speaking_59 : decode cX4_speaking 59 = .ok (.invokevirtual 87, 3) := by decide +kernel
theorem dX4_speaking_62 : decode cX4_speaking 62 = .ok (.ifCond .eq 22, 3) := by decide +kernel
theorem dX4_speaking_65 : decode cX4_speaking 65 = .ok (.aload 7, 2) := by decide +kernel
theorem dX4_speaking_67 : decode cX4_speaking 67 = .ok (.iload 4, 2) := by decide +kernel
theorem dX4_speaking_69 : decode cX4_speaking 69 = .ok (.invokevirtual 91, 3) := by decide +kernel
theorem dX4_speaking_72 : decode cX4_speaking 72 = .ok (.ifCond .eq 12, 3) := by decide +kernel
theorem dX4_speaking_75 : decode cX4_speaking 75 = .ok (.iload 5, 2) := by decide +kernel
theorem dX4_speaking_77 : decode cX4_speaking 77 = .ok (.iconst 1, 1) := by decide +kernel
theorem dX4_speaking_78 : decode cX4_speaking 78 = .ok (.iload 6, 2) := by decide +kernel
theorem dX4_speaking_80 : decode cX4_speaking 80 = .ok (.ishl, 1) := by decide +kernel
theorem dX4_speaking_81 : decode cX4_speaking 81 = .ok (.ior, 1) := by decide +kernel
theorem dX4_speaking_82 : decode cX4_speaking 82 = .ok (.istore 5, 2) := by decide +kernel
theorem dX4_speaking_84 : decode cX4_speaking 84 = .ok (.iinc 6 1, 3) := by decide +kernel
theorem dX4_speaking_87 : decode cX4_speaking 87 = .ok (.goto (-81), 3) := by decide +kernel
theorem dX4_speaking_90 : decode cX4_speaking 90 = .ok (.iload 5, 2) := by decide +kernel
theorem dX4_speaking_92 : decode cX4_speaking 92 = .ok (.ireturn, 1) := by decide +kernel
theorem dX4_allowing_0 : decode cX4_allowing 0 = .ok (.iconst 0, 1) := by decide +kernel
theorem dX4_allowing_1 : decode cX4_allowing 1 = .ok (.istore_n 1, 1) := by decide +kernel
theorem dX4_allowing_2 : decode cX4_allowing 2 = .ok (.iconst 0, 1) := by decide +kernel
theorem dX4_allowing_3 : decode cX4_allowing 3 = .ok (.istore_n 2, 1) := by decide +kernel
theorem dX4_allowing_4 : decode cX4_allowing 4 = .ok (.iload_n 2, 1) := by decide +kernel
theorem dX4_allowing_5 : decode cX4_allowing 5 = .ok (.aload_n 0, 1) := by decide +kernel
theorem dX4_allowing_6 : decode cX4_allowing 6 = .ok (.getfield 43, 3) := by decide +kernel
theorem dX4_allowing_9 : decode cX4_allowing 9 = .ok (.if_icmp .ge 33, 3) := by decide +kernel
theorem dX4_allowing_12 : decode cX4_allowing 12 = .ok (.aload_n 0, 1) := by decide +kernel
theorem dX4_allowing_13 : decode cX4_allowing 13 = .ok (.getfield 20, 3) := by decide +kernel
theorem dX4_allowing_16 : decode cX4_allowing 16 = .ok (.iload_n 2, 1) := by decide +kernel
theorem dX4_allowing_17 : decode cX4_allowing 17 = .ok (.aaload, 1) := by decide +kernel
theorem dX4_allowing_18 : decode cX4_allowing 18 = .ok (.astore_n 3, 1) := by decide +kernel
theorem dX4_allowing_19 : decode cX4_allowing 19 = .ok (.aload_n 3, 1) := by decide +kernel
theorem dX4_allowing_20 : decode cX4_allowing 20 = .ok (.ifnull 16, 3) := by decide +kernel
theorem dX4_allowing_23 : decode cX4_allowing 23 = .ok (.aload_n 3, 1) := by decide +kernel
theorem dX4_allowing_24 : decode cX4_allowing 24 = .ok (.invokevirtual 94, 3) := by decide +kernel
theorem dX4_allowing_27 : decode cX4_allowing 27 = .ok (.ifCond .eq 9, 3) := by decide +kernel
theorem dX4_allowing_30 : decode cX4_allowing 30 = .ok (.iload_n 1, 1) := by decide +kernel
theorem dX4_allowing_31 : decode cX4_allowing 31 = .ok (.iconst 1, 1) := by decide +kernel
theorem dX4_allowing_32 : decode cX4_allowing 32 = .ok (.iload_n 2, 1) := by decide +kernel
theorem dX4_allowing_33 : decode cX4_allowing 33 = .ok (.ishl, 1) := by decide +kernel
theorem dX4_allowing_34 : decode cX4_allowing 34 = .ok (.ior, 1) := by decide +kernel
theorem dX4_allowing_35 : decode cX4_allowing 35 = .ok (.istore_n 1, 1) := by decide +kernel
theorem dX4_allowing_36 : decode cX4_allowing 36 = .ok (.iinc 2 1, 3) := by decide +kernel
theorem dX4_allowing_39 : decode cX4_allowing 39 = .ok (.goto (-35), 3) := by decide +kernel
theorem dX4_allowing_42 : decode cX4_allowing 42 = .ok (.iload_n 1, 1) := by decide +kernel
theorem dX4_allowing_43 : decode cX4_allowing 43 = .ok (.ireturn, 1) := by decide +kernel
theorem dX4_decider_0 : decode cX4_decider 0 = .ok (.aload_n 0, 1) := by decide +kernel
theorem dX4_decider_1 : decode cX4_decider 1 = .ok (.getfield 9, 3) := by decide +kernel
theorem dX4_decider_4 : decode cX4_decider 4 = .ok (.iload_n 1, 1) := by decide +kernel
theorem dX4_decider_5 : decode cX4_decider 5 = .ok (.iaload, 1) := by decide +kernel
theorem dX4_decider_6 : decode cX4_decider 6 = .ok (.aload_n 0, 1) := by decide +kernel
theorem dX4_decider_7 : decode cX4_decider 7 = .ok (.iload_n 1, 1) := by decide +kernel
theorem dX4_decider_8 : decode cX4_decider 8 = .ok (.iload_n 2, 1) := by decide +kernel
theorem dX4_decider_9 : decode cX4_decider 9 = .ok (.iload_n 3, 1) := by decide +kernel
theorem dX4_decider_10 : decode cX4_decider 10 = .ok (.iload 4, 2) := by decide +kernel
theorem dX4_decider_12 : decode cX4_decider 12 = .ok (.invokevirtual 98, 3) := by decide +kernel
theorem dX4_decider_15 : decode cX4_decider 15 = .ok (.aload_n 0, 1) := by decide +kernel
theorem dX4_decider_16 : decode cX4_decider 16 = .ok (.invokevirtual 102, 3) := by decide +kernel
theorem dX4_decider_19 : decode cX4_decider 19 = .ok (.invokestatic 105, 3) := by decide +kernel
theorem dX4_decider_22 : decode cX4_decider 22 = .ok (.ireturn, 1) := by decide +kernel
theorem dX4_forbids_0 : decode cX4_forbids 0 = .ok (.aload_n 0, 1) := by decide +kernel
theorem dX4_forbids_1 : decode cX4_forbids 1 = .ok (.getfield 9, 3) := by decide +kernel
theorem dX4_forbids_4 : decode cX4_forbids 4 = .ok (.iload_n 1, 1) := by decide +kernel
theorem dX4_forbids_5 : decode cX4_forbids 5 = .ok (.iaload, 1) := by decide +kernel
theorem dX4_forbids_6 : decode cX4_forbids 6 = .ok (.aload_n 0, 1) := by decide +kernel
theorem dX4_forbids_7 : decode cX4_forbids 7 = .ok (.iload_n 1, 1) := by decide +kernel
theorem dX4_forbids_8 : decode cX4_forbids 8 = .ok (.iload_n 2, 1) := by decide +kernel
theorem dX4_forbids_9 : decode cX4_forbids 9 = .ok (.iload_n 3, 1) := by decide +kernel
theorem dX4_forbids_10 : decode cX4_forbids 10 = .ok (.iload 4, 2) := by decide +kernel
theorem dX4_forbids_12 : decode cX4_forbids 12 = .ok (.invokevirtual 98, 3) := by decide +kernel
theorem dX4_forbids_15 : decode cX4_forbids 15 = .ok (.aload_n 0, 1) := by decide +kernel
theorem dX4_forbids_16 : decode cX4_forbids 16 = .ok (.invokevirtual 102, 3) := by decide +kernel
theorem dX4_forbids_19 : decode cX4_forbids 19 = .ok (.invokestatic 109, 3) := by decide +kernel
theorem dX4_forbids_22 : decode cX4_forbids 22 = .ok (.ireturn, 1) := by decide +kernel
theorem dX4_forbidsOneOf_0 : decode cX4_forbidsOneOf 0 = .ok (.aload_n 0, 1) := by decide +kernel
theorem dX4_forbidsOneOf_1 : decode cX4_forbidsOneOf 1 = .ok (.invokevirtual 102, 3) := by decide +kernel
theorem dX4_forbidsOneOf_4 : decode cX4_forbidsOneOf 4 = .ok (.istore 5, 2) := by decide +kernel
theorem dX4_forbidsOneOf_6 : decode cX4_forbidsOneOf 6 = .ok (.iconst 0, 1) := by decide +kernel
theorem dX4_forbidsOneOf_7 : decode cX4_forbidsOneOf 7 = .ok (.istore 6, 2) := by decide +kernel
theorem dX4_forbidsOneOf_9 : decode cX4_forbidsOneOf 9 = .ok (.iload 6, 2) := by decide +kernel
theorem dX4_forbidsOneOf_11 : decode cX4_forbidsOneOf 11 = .ok (.bipush 6, 2) := by decide +kernel
theorem dX4_forbidsOneOf_13 : decode cX4_forbidsOneOf 13 = .ok (.if_icmp .ge 52, 3) := by decide +kernel
theorem dX4_forbidsOneOf_16 : decode cX4_forbidsOneOf 16 = .ok (.iload_n 1, 1) := by decide +kernel
theorem dX4_forbidsOneOf_17 : decode cX4_forbidsOneOf 17 = .ok (.iload 6, 2) := by decide +kernel
theorem dX4_forbidsOneOf_19 : decode cX4_forbidsOneOf 19 = .ok (.ishr, 1) := by decide +kernel
theorem dX4_forbidsOneOf_20 : decode cX4_forbidsOneOf 20 = .ok (.iconst 1, 1) := by decide +kernel
theorem dX4_forbidsOneOf_21 : decode cX4_forbidsOneOf 21 = .ok (.iand, 1) := by decide +kernel
theorem dX4_forbidsOneOf_22 : decode cX4_forbidsOneOf 22 = .ok (.ifCond .eq 37, 3) := by decide +kernel
theorem dX4_forbidsOneOf_25 : decode cX4_forbidsOneOf 25 = .ok (.aload_n 0, 1) := by decide +kernel
theorem dX4_forbidsOneOf_26 : decode cX4_forbidsOneOf 26 = .ok (.iload_n 2, 1) := by decide +kernel
theorem dX4_forbidsOneOf_27 : decode cX4_forbidsOneOf 27 = .ok (.iload 6, 2) := by decide +kernel
theorem dX4_forbidsOneOf_29 : decode cX4_forbidsOneOf 29 = .ok (.iload_n 3, 1) := by decide +kernel
theorem dX4_forbidsOneOf_30 : decode cX4_forbidsOneOf 30 = .ok (.iconst 0, 1) := by decide +kernel
theorem dX4_forbidsOneOf_31 : decode cX4_forbidsOneOf 31 = .ok (.invokevirtual 98, 3) := by decide +kernel
theorem dX4_forbidsOneOf_34 : decode cX4_forbidsOneOf 34 = .ok (.iload 4, 2) := by decide +kernel
theorem dX4_forbidsOneOf_36 : decode cX4_forbidsOneOf 36 = .ok (.iconst (-1), 1) := by decide +kernel
theorem dX4_forbidsOneOf_37 : decode cX4_forbidsOneOf 37 = .ok (.ixor, 1) := by decide +kernel
theorem dX4_forbidsOneOf_38 : decode cX4_forbidsOneOf 38 = .ok (.iand, 1) := by decide +kernel
theorem dX4_forbidsOneOf_39 : decode cX4_forbidsOneOf 39 = .ok (.istore 7, 2) := by decide +kernel
theorem dX4_forbidsOneOf_41 : decode cX4_forbidsOneOf 41 = .ok (.aload_n 0, 1) := by decide +kernel
theorem dX4_forbidsOneOf_42 : decode cX4_forbidsOneOf 42 = .ok (.getfield 9, 3) := by decide +kernel
theorem dX4_forbidsOneOf_45 : decode cX4_forbidsOneOf 45 = .ok (.iload_n 2, 1) := by decide +kernel
theorem dX4_forbidsOneOf_46 : decode cX4_forbidsOneOf 46 = .ok (.iaload, 1) := by decide +kernel
theorem dX4_forbidsOneOf_47 : decode cX4_forbidsOneOf 47 = .ok (.iload 7, 2) := by decide +kernel
theorem dX4_forbidsOneOf_49 : decode cX4_forbidsOneOf 49 = .ok (.iload 5, 2) := by decide +kernel
theorem dX4_forbidsOneOf_51 : decode cX4_forbidsOneOf 51 = .ok (.invokestatic 109, 3) := by decide +kernel
theorem dX4_forbidsOneOf_54 : decode cX4_forbidsOneOf 54 = .ok (.ifCond .eq 5, 3) := by decide +kernel
theorem dX4_forbidsOneOf_57 : decode cX4_forbidsOneOf 57 = .ok (.iconst 1, 1) := by decide +kernel
theorem dX4_forbidsOneOf_58 : decode cX4_forbidsOneOf 58 = .ok (.ireturn, 1) := by decide +kernel
theorem dX4_forbidsOneOf_59 : decode cX4_forbidsOneOf 59 = .ok (.iinc 6 1, 3) := by decide +kernel
theorem dX4_forbidsOneOf_62 : decode cX4_forbidsOneOf 62 = .ok (.goto (-53), 3) := by decide +kernel
theorem dX4_forbidsOneOf_65 : decode cX4_forbidsOneOf 65 = .ok (.iconst 0, 1) := by decide +kernel
theorem dX4_forbidsOneOf_66 : decode cX4_forbidsOneOf 66 = .ok (.ireturn, 1) := by decide +kernel
theorem dX4_townsPressing_0 : decode cX4_townsPressing 0 = .ok (.iconst 0, 1) := by decide +kernel
theorem dX4_townsPressing_1 : decode cX4_townsPressing 1 = .ok (.istore 4, 2) := by decide +kernel
theorem dX4_townsPressing_3 : decode cX4_townsPressing 3 = .ok (.iconst 0, 1) := by decide +kernel
theorem dX4_townsPressing_4 : decode cX4_townsPressing 4 = .ok (.istore 5, 2) := by decide +kernel
theorem dX4_townsPressing_6 : decode cX4_townsPressing 6 = .ok (.iload 5, 2) := by decide +kernel
theorem dX4_townsPressing_8 : decode cX4_townsPressing 8 = .ok (.aload_n 0, 1) := by decide +kernel
theorem dX4_townsPressing_9 : decode cX4_townsPressing 9 = .ok (.getfield 39, 3) := by decide +kernel
theorem dX4_townsPressing_12 : decode cX4_townsPressing 12 = .ok (.if_icmp .ge 24, 3) := by decide +kernel
theorem dX4_townsPressing_15 : decode cX4_townsPressing 15 = .ok (.aload_n 0, 1) := by decide +kernel
theorem dX4_townsPressing_16 : decode cX4_townsPressing 16 = .ok (.iload_n 1, 1) := by decide +kernel
theorem dX4_townsPressing_17 : decode cX4_townsPressing 17 = .ok (.iload 5, 2) := by decide +kernel
theorem dX4_townsPressing_19 : decode cX4_townsPressing 19 = .ok (.iload_n 2, 1) := by decide +kernel
theorem dX4_townsPressing_20 : decode cX4_townsPressing 20 = .ok (.iload_n 3, 1) := by decide +kernel
theorem dX4_townsPressing_21 : decode cX4_townsPressing 21 = .ok (.invokevirtual 113, 3) := by decide +kernel
theorem dX4_townsPressing_24 : decode cX4_townsPressing 24 = .ok (.ifCond .eq 6, 3) := by decide +kernel
theorem dX4_townsPressing_27 : decode cX4_townsPressing 27 = .ok (.iinc 4 1, 3) := by decide +kernel
theorem dX4_townsPressing_30 : decode cX4_townsPressing 30 = .ok (.iinc 5 1, 3) := by decide +kernel
theorem dX4_townsPressing_33 : decode cX4_townsPressing 33 = .ok (.goto (-27), 3) := by decide +kernel
theorem dX4_townsPressing_36 : decode cX4_townsPressing 36 = .ok (.iload 4, 2) := by decide +kernel
theorem dX4_townsPressing_38 : decode cX4_townsPressing 38 = .ok (.ireturn, 1) := by decide +kernel
theorem dX4_daysPressed_0 : decode cX4_daysPressed 0 = .ok (.iconst 0, 1) := by decide +kernel
theorem dX4_daysPressed_1 : decode cX4_daysPressed 1 = .ok (.istore_n 3, 1) := by decide +kernel
theorem dX4_daysPressed_2 : decode cX4_daysPressed 2 = .ok (.iconst 0, 1) := by decide +kernel
theorem dX4_daysPressed_3 : decode cX4_daysPressed 3 = .ok (.istore 4, 2) := by decide +kernel
theorem dX4_daysPressed_5 : decode cX4_daysPressed 5 = .ok (.iload 4, 2) := by decide +kernel
theorem dX4_daysPressed_7 : decode cX4_daysPressed 7 = .ok (.bipush 60, 2) := by decide +kernel
theorem dX4_daysPressed_9 : decode cX4_daysPressed 9 = .ok (.if_icmp .ge 24, 3) := by decide +kernel
theorem dX4_daysPressed_12 : decode cX4_daysPressed 12 = .ok (.aload_n 0, 1) := by decide +kernel
theorem dX4_daysPressed_13 : decode cX4_daysPressed 13 = .ok (.iload_n 2, 1) := by decide +kernel
theorem dX4_daysPressed_14 : decode cX4_daysPressed 14 = .ok (.iload_n 1, 1) := by decide +kernel
theorem dX4_daysPressed_15 : decode cX4_daysPressed 15 = .ok (.iload 4, 2) := by decide +kernel
theorem dX4_daysPressed_17 : decode cX4_daysPressed 17 = .ok (.iconst 0, 1) := by decide +kernel
theorem dX4_daysPressed_18 : decode cX4_daysPressed 18 = .ok (.invokevirtual 113, 3) := by decide +kernel
theorem dX4_daysPressed_21 : decode cX4_daysPressed 21 = .ok (.ifCond .eq 6, 3) := by decide +kernel
theorem dX4_daysPressed_24 : decode cX4_daysPressed 24 = .ok (.iinc 3 1, 3) := by decide +kernel
theorem dX4_daysPressed_27 : decode cX4_daysPressed 27 = .ok (.iinc 4 1, 3) := by decide +kernel
theorem dX4_daysPressed_30 : decode cX4_daysPressed 30 = .ok (.goto (-25), 3) := by decide +kernel
theorem dX4_daysPressed_33 : decode cX4_daysPressed 33 = .ok (.iload_n 3, 1) := by decide +kernel
theorem dX4_daysPressed_34 : decode cX4_daysPressed 34 = .ok (.ireturn, 1) := by decide +kernel
theorem dX4_noteSpeaking_0 : decode cX4_noteSpeaking 0 = .ok (.iconst 0, 1) := by decide +kernel
theorem dX4_noteSpeaking_1 : decode cX4_noteSpeaking 1 = .ok (.istore_n 3, 1) := by decide +kernel
theorem dX4_noteSpeaking_2 : decode cX4_noteSpeaking 2 = .ok (.iload_n 3, 1) := by decide +kernel
theorem dX4_noteSpeaking_3 : decode cX4_noteSpeaking 3 = .ok (.bipush 6, 2) := by decide +kernel
theorem dX4_noteSpeaking_5 : decode cX4_noteSpeaking 5 = .ok (.if_icmp .ge 72, 3) := by decide +kernel
theorem dX4_noteSpeaking_8 : decode cX4_noteSpeaking 8 = .ok (.iconst 0, 1) := by decide +kernel
theorem dX4_noteSpeaking_9 : decode cX4_noteSpeaking 9 = .ok (.istore 4, 2) := by decide +kernel
theorem dX4_noteSpeaking_11 : decode cX4_noteSpeaking 11 = .ok (.iload 4, 2) := by decide +kernel
theorem dX4_noteSpeaking_13 : decode cX4_noteSpeaking 13 = .ok (.aload_n 0, 1) := by decide +kernel
theorem dX4_noteSpeaking_14 : decode cX4_noteSpeaking 14 = .ok (.getfield 39, 3) := by decide +kernel
theorem dX4_noteSpeaking_17 : decode cX4_noteSpeaking 17 = .ok (.if_icmp .ge 54, 3) := by decide +kernel
theorem dX4_noteSpeaking_20 : decode cX4_noteSpeaking 20 = .ok (.iload_n 1, 1) := by decide +kernel
theorem dX4_noteSpeaking_21 : decode cX4_noteSpeaking 21 = .ok (.iload_n 3, 1) := by decide +kernel
theorem dX4_noteSpeaking_22 : decode cX4_noteSpeaking 22 = .ok (.ishr, 1) := by decide +kernel
theorem dX4_noteSpeaking_23 : decode cX4_noteSpeaking 23 = .ok (.iconst 1, 1) := by decide +kernel
theorem dX4_noteSpeaking_24 : decode cX4_noteSpeaking 24 = .ok (.iand, 1) := by decide +kernel
theorem dX4_noteSpeaking_25 : decode cX4_noteSpeaking 25 = .ok (.ifCond .eq 7, 3) := by decide +kernel
theorem dX4_noteSpeaking_28 : decode cX4_noteSpeaking 28 = .ok (.iconst 1, 1) := by decide +kernel
theorem dX4_noteSpeaking_29 : decode cX4_noteSpeaking 29 = .ok (.goto 4, 3) := by decide +kernel
theorem dX4_noteSpeaking_32 : decode cX4_noteSpeaking 32 = .ok (.iconst 0, 1) := by decide +kernel
theorem dX4_noteSpeaking_33 : decode cX4_noteSpeaking 33 = .ok (.istore 5, 2) := by decide +kernel
theorem dX4_noteSpeaking_35 : decode cX4_noteSpeaking 35 = .ok (.aload_n 0, 1) := by decide +kernel
theorem dX4_noteSpeaking_36 : decode cX4_noteSpeaking 36 = .ok (.getfield 36, 3) := by decide +kernel
theorem dX4_noteSpeaking_39 : decode cX4_noteSpeaking 39 = .ok (.bipush 6, 2) := by decide +kernel
theorem dX4_noteSpeaking_41 : decode cX4_noteSpeaking 41 = .ok (.iload_n 3, 1) := by decide +kernel
theorem dX4_noteSpeaking_42 : decode cX4_noteSpeaking 42 = .ok (.imul, 1) := by decide +kernel
theorem dX4_noteSpeaking_43 : decode cX4_noteSpeaking 43 = .ok (.iload 4, 2) := by decide +kernel
theorem dX4_noteSpeaking_45 : decode cX4_noteSpeaking 45 = .ok (.iadd, 1) := by decide +kernel
theorem dX4_noteSpeaking_46 : decode cX4_noteSpeaking 46 = .ok (.iload 5, 2) := by decide +kernel
theorem dX4_noteSpeaking_48 : decode cX4_noteSpeaking 48 = .ok (.ifCond .eq 15, 3) := by decide +kernel
theorem dX4_noteSpeaking_51 : decode cX4_noteSpeaking 51 = .ok (.aload_n 0, 1) := by decide +kernel
theorem dX4_noteSpeaking_52 : decode cX4_noteSpeaking 52 = .ok (.iload 4, 2) := by decide +kernel
theorem dX4_noteSpeaking_54 : decode cX4_noteSpeaking 54 = .ok (.iload_n 3, 1) := by decide +kernel
theorem dX4_noteSpeaking_55 : decode cX4_noteSpeaking 55 = .ok (.iload_n 2, 1) := by decide +kernel
theorem dX4_noteSpeaking_56 : decode cX4_noteSpeaking 56 = .ok (.iconst 0, 1) := by decide +kernel
theorem dX4_noteSpeaking_57 : decode cX4_noteSpeaking 57 = .ok (.invokevirtual 98, 3) := by decide +kernel
theorem dX4_noteSpeaking_60 : decode cX4_noteSpeaking 60 = .ok (.goto 4, 3) := by decide +kernel
theorem dX4_noteSpeaking_63 : decode cX4_noteSpeaking 63 = .ok (.iconst 0, 1) := by decide +kernel
theorem dX4_noteSpeaking_64 : decode cX4_noteSpeaking 64 = .ok (.iastore, 1) := by decide +kernel
theorem dX4_noteSpeaking_65 : decode cX4_noteSpeaking 65 = .ok (.iinc 4 1, 3) := by decide +kernel
theorem dX4_noteSpeaking_68 : decode cX4_noteSpeaking 68 = .ok (.goto (-57), 3) := by decide +kernel
theorem dX4_noteSpeaking_71 : decode cX4_noteSpeaking 71 = .ok (.iinc 3 1, 3) := by decide +kernel
theorem dX4_noteSpeaking_74 : decode cX4_noteSpeaking 74 = .ok (.goto (-72), 3) := by decide +kernel
theorem dX4_noteSpeaking_77 : decode cX4_noteSpeaking 77 = .ok (.return_, 1) := by decide +kernel
theorem dX4_agreesIn_0 : decode cX4_agreesIn 0 = .ok (.iconst 0, 1) := by decide +kernel
theorem dX4_agreesIn_1 : decode cX4_agreesIn 1 = .ok (.istore 4, 2) := by decide +kernel
theorem dX4_agreesIn_3 : decode cX4_agreesIn 3 = .ok (.iconst 0, 1) := by decide +kernel
theorem dX4_agreesIn_4 : decode cX4_agreesIn 4 = .ok (.istore 5, 2) := by decide +kernel
theorem dX4_agreesIn_6 : decode cX4_agreesIn 6 = .ok (.iload 5, 2) := by decide +kernel
theorem dX4_agreesIn_8 : decode cX4_agreesIn 8 = .ok (.aload_n 0, 1) := by decide +kernel
theorem dX4_agreesIn_9 : decode cX4_agreesIn 9 = .ok (.getfield 39, 3) := by decide +kernel
theorem dX4_agreesIn_12 : decode cX4_agreesIn 12 = .ok (.if_icmp .ge 63, 3) := by decide +kernel
theorem dX4_agreesIn_15 : decode cX4_agreesIn 15 = .ok (.aload_n 0, 1) := by decide +kernel
theorem dX4_agreesIn_16 : decode cX4_agreesIn 16 = .ok (.getfield 36, 3) := by decide +kernel
theorem dX4_agreesIn_19 : decode cX4_agreesIn 19 = .ok (.bipush 6, 2) := by decide +kernel
theorem dX4_agreesIn_21 : decode cX4_agreesIn 21 = .ok (.iload_n 1, 1) := by decide +kernel
theorem dX4_agreesIn_22 : decode cX4_agreesIn 22 = .ok (.imul, 1) := by decide +kernel
theorem dX4_agreesIn_23 : decode cX4_agreesIn 23 = .ok (.iload 5, 2) := by decide +kernel
theorem dX4_agreesIn_25 : decode cX4_agreesIn 25 = .ok (.iadd, 1) := by decide +kernel
theorem dX4_agreesIn_26 : decode cX4_agreesIn 26 = .ok (.iaload, 1) := by decide +kernel
theorem dX4_agreesIn_27 : decode cX4_agreesIn 27 = .ok (.iload_n 2, 1) := by decide +kernel
theorem dX4_agreesIn_28 : decode cX4_agreesIn 28 = .ok (.iconst (-1), 1) := by decide +kernel
theorem dX4_agreesIn_29 : decode cX4_agreesIn 29 = .ok (.ixor, 1) := by decide +kernel
theorem dX4_agreesIn_30 : decode cX4_agreesIn 30 = .ok (.iand, 1) := by decide +kernel
theorem dX4_agreesIn_31 : decode cX4_agreesIn 31 = .ok (.istore 6, 2) := by decide +kernel
theorem dX4_agreesIn_33 : decode cX4_agreesIn 33 = .ok (.aload_n 0, 1) := by decide +kernel
theorem dX4_agreesIn_34 : decode cX4_agreesIn 34 = .ok (.getfield 9, 3) := by decide +kernel
theorem dX4_agreesIn_37 : decode cX4_agreesIn 37 = .ok (.iload 5, 2) := by decide +kernel
theorem dX4_agreesIn_39 : decode cX4_agreesIn 39 = .ok (.iaload, 1) := by decide +kernel
theorem dX4_agreesIn_40 : decode cX4_agreesIn 40 = .ok (.iload 6, 2) := by decide +kernel
theorem dX4_agreesIn_42 : decode cX4_agreesIn 42 = .ok (.iload_n 3, 1) := by decide +kernel
theorem dX4_agreesIn_43 : decode cX4_agreesIn 43 = .ok (.invokestatic 109, 3) := by decide +kernel
theorem dX4_agreesIn_46 : decode cX4_agreesIn 46 = .ok (.istore 7, 2) := by decide +kernel
theorem dX4_agreesIn_48 : decode cX4_agreesIn 48 = .ok (.iload 5, 2) := by decide +kernel
theorem dX4_agreesIn_50 : decode cX4_agreesIn 50 = .ok (.ifCond .ne 10, 3) := by decide +kernel
theorem dX4_agreesIn_53 : decode cX4_agreesIn 53 = .ok (.iload 7, 2) := by decide +kernel
theorem dX4_agreesIn_55 : decode cX4_agreesIn 55 = .ok (.istore 4, 2) := by decide +kernel
theorem dX4_agreesIn_57 : decode cX4_agreesIn 57 = .ok (.goto 12, 3) := by decide +kernel
theorem dX4_agreesIn_60 : decode cX4_agreesIn 60 = .ok (.iload 7, 2) := by decide +kernel
theorem dX4_agreesIn_62 : decode cX4_agreesIn 62 = .ok (.iload 4, 2) := by decide +kernel
theorem dX4_agreesIn_64 : decode cX4_agreesIn 64 = .ok (.if_icmp .eq 5, 3) := by decide +kernel
theorem dX4_agreesIn_67 : decode cX4_agreesIn 67 = .ok (.iconst 0, 1) := by decide +kernel
theorem dX4_agreesIn_68 : decode cX4_agreesIn 68 = .ok (.ireturn, 1) := by decide +kernel
theorem dX4_agreesIn_69 : decode cX4_agreesIn 69 = .ok (.iinc 5 1, 3) := by decide +kernel
theorem dX4_agreesIn_72 : decode cX4_agreesIn 72 = .ok (.goto (-66), 3) := by decide +kernel
theorem dX4_agreesIn_75 : decode cX4_agreesIn 75 = .ok (.iconst 1, 1) := by decide +kernel
theorem dX4_agreesIn_76 : decode cX4_agreesIn 76 = .ok (.ireturn, 1) := by decide +kernel
theorem dX4_agrees_0 : decode cX4_agrees 0 = .ok (.iconst 0, 1) := by decide +kernel
theorem dX4_agrees_1 : decode cX4_agrees 1 = .ok (.istore 4, 2) := by decide +kernel
theorem dX4_agrees_3 : decode cX4_agrees 3 = .ok (.iload 4, 2) := by decide +kernel
theorem dX4_agrees_5 : decode cX4_agrees 5 = .ok (.bipush 6, 2) := by decide +kernel
theorem dX4_agrees_7 : decode cX4_agrees 7 = .ok (.if_icmp .ge 31, 3) := by decide +kernel
theorem dX4_agrees_10 : decode cX4_agrees 10 = .ok (.iload_n 1, 1) := by decide +kernel
theorem dX4_agrees_11 : decode cX4_agrees 11 = .ok (.iload 4, 2) := by decide +kernel
theorem dX4_agrees_13 : decode cX4_agrees 13 = .ok (.ishr, 1) := by decide +kernel
theorem dX4_agrees_14 : decode cX4_agrees 14 = .ok (.iconst 1, 1) := by decide +kernel
theorem dX4_agrees_15 : decode cX4_agrees 15 = .ok (.iand, 1) := by decide +kernel
theorem dX4_agrees_16 : decode cX4_agrees 16 = .ok (.ifCond .eq 16, 3) := by decide +kernel
theorem dX4_agrees_19 : decode cX4_agrees 19 = .ok (.aload_n 0, 1) := by decide +kernel
theorem dX4_agrees_20 : decode cX4_agrees 20 = .ok (.iload 4, 2) := by decide +kernel
theorem dX4_agrees_22 : decode cX4_agrees 22 = .ok (.iload_n 2, 1) := by decide +kernel
theorem dX4_agrees_23 : decode cX4_agrees 23 = .ok (.iload_n 3, 1) := by decide +kernel
theorem dX4_agrees_24 : decode cX4_agrees 24 = .ok (.invokevirtual 116, 3) := by decide +kernel
theorem dX4_agrees_27 : decode cX4_agrees 27 = .ok (.ifCond .ne 5, 3) := by decide +kernel
theorem dX4_agrees_30 : decode cX4_agrees 30 = .ok (.iconst 0, 1) := by decide +kernel
theorem dX4_agrees_31 : decode cX4_agrees 31 = .ok (.ireturn, 1) := by decide +kernel
theorem dX4_agrees_32 : decode cX4_agrees 32 = .ok (.iinc 4 1, 3) := by decide +kernel
theorem dX4_agrees_35 : decode cX4_agrees 35 = .ok (.goto (-32), 3) := by decide +kernel
theorem dX4_agrees_38 : decode cX4_agrees 38 = .ok (.iconst 1, 1) := by decide +kernel
theorem dX4_agrees_39 : decode cX4_agrees 39 = .ok (.ireturn, 1) := by decide +kernel
theorem dX4_isForged_0 : decode cX4_isForged 0 = .ok (.iconst 5, 1) := by decide +kernel
theorem dX4_isForged_1 : decode cX4_isForged 1 = .ok (.iload_n 1, 1) := by decide +kernel
theorem dX4_isForged_2 : decode cX4_isForged 2 = .ok (.imul, 1) := by decide +kernel
theorem dX4_isForged_3 : decode cX4_isForged 3 = .ok (.istore_n 2, 1) := by decide +kernel
theorem dX4_isForged_4 : decode cX4_isForged 4 = .ok (.aload_n 0, 1) := by decide +kernel
theorem dX4_isForged_5 : decode cX4_isForged 5 = .ok (.getfield 30, 3) := by decide +kernel
theorem dX4_isForged_8 : decode cX4_isForged 8 = .ok (.iload_n 2, 1) := by decide +kernel
theorem dX4_isForged_9 : decode cX4_isForged 9 = .ok (.iconst 3, 1) := by decide +kernel
theorem dX4_isForged_10 : decode cX4_isForged 10 = .ok (.iadd, 1) := by decide +kernel
theorem dX4_isForged_11 : decode cX4_isForged 11 = .ok (.iaload, 1) := by decide +kernel
theorem dX4_isForged_12 : decode cX4_isForged 12 = .ok (.aload_n 0, 1) := by decide +kernel
theorem dX4_isForged_13 : decode cX4_isForged 13 = .ok (.getfield 30, 3) := by decide +kernel
theorem dX4_isForged_16 : decode cX4_isForged 16 = .ok (.iload_n 2, 1) := by decide +kernel
theorem dX4_isForged_17 : decode cX4_isForged 17 = .ok (.iconst 4, 1) := by decide +kernel
theorem dX4_isForged_18 : decode cX4_isForged 18 = .ok (.iadd, 1) := by decide +kernel
theorem dX4_isForged_19 : decode cX4_isForged 19 = .ok (.iaload, 1) := by decide +kernel
theorem dX4_isForged_20 : decode cX4_isForged 20 = .ok (.invokestatic 66, 3) := by decide +kernel
theorem dX4_isForged_23 : decode cX4_isForged 23 = .ok (.istore_n 3, 1) := by decide +kernel
theorem dX4_isForged_24 : decode cX4_isForged 24 = .ok (.aload_n 0, 1) := by decide +kernel
theorem dX4_isForged_25 : decode cX4_isForged 25 = .ok (.aload_n 0, 1) := by decide +kernel
theorem dX4_isForged_26 : decode cX4_isForged 26 = .ok (.getfield 30, 3) := by decide +kernel
theorem dX4_isForged_29 : decode cX4_isForged 29 = .ok (.iload_n 2, 1) := by decide +kernel
theorem dX4_isForged_30 : decode cX4_isForged 30 = .ok (.iaload, 1) := by decide +kernel
theorem dX4_isForged_31 : decode cX4_isForged 31 = .ok (.aload_n 0, 1) := by decide +kernel
theorem dX4_isForged_32 : decode cX4_isForged 32 = .ok (.getfield 30, 3) := by decide +kernel
theorem dX4_isForged_35 : decode cX4_isForged 35 = .ok (.iload_n 2, 1) := by decide +kernel
theorem dX4_isForged_36 : decode cX4_isForged 36 = .ok (.iconst 1, 1) := by decide +kernel
theorem dX4_isForged_37 : decode cX4_isForged 37 = .ok (.iadd, 1) := by decide +kernel
theorem dX4_isForged_38 : decode cX4_isForged 38 = .ok (.iaload, 1) := by decide +kernel
theorem dX4_isForged_39 : decode cX4_isForged 39 = .ok (.aload_n 0, 1) := by decide +kernel
theorem dX4_isForged_40 : decode cX4_isForged 40 = .ok (.getfield 30, 3) := by decide +kernel
theorem dX4_isForged_43 : decode cX4_isForged 43 = .ok (.iload_n 2, 1) := by decide +kernel
theorem dX4_isForged_44 : decode cX4_isForged 44 = .ok (.iconst 2, 1) := by decide +kernel
theorem dX4_isForged_45 : decode cX4_isForged 45 = .ok (.iadd, 1) := by decide +kernel
theorem dX4_isForged_46 : decode cX4_isForged 46 = .ok (.iaload, 1) := by decide +kernel
theorem dX4_isForged_47 : decode cX4_isForged 47 = .ok (.iload_n 3, 1) := by decide +kernel
theorem dX4_isForged_48 : decode cX4_isForged 48 = .ok (.invokevirtual 69, 3) := by decide +kernel
theorem dX4_isForged_51 : decode cX4_isForged 51 = .ok (.ireturn, 1) := by decide +kernel
theorem dX4_addLeave_0 : decode cX4_addLeave 0 = .ok (.iconst 5, 1) := by decide +kernel
theorem dX4_addLeave_1 : decode cX4_addLeave 1 = .ok (.aload_n 0, 1) := by decide +kernel
theorem dX4_addLeave_2 : decode cX4_addLeave 2 = .ok (.getfield 49, 3) := by decide +kernel
theorem dX4_addLeave_5 : decode cX4_addLeave 5 = .ok (.imul, 1) := by decide +kernel
theorem dX4_addLeave_6 : decode cX4_addLeave 6 = .ok (.istore 6, 2) := by decide +kernel
theorem dX4_addLeave_8 : decode cX4_addLeave 8 = .ok (.aload_n 0, 1) := by decide +kernel
theorem dX4_addLeave_9 : decode cX4_addLeave 9 = .ok (.getfield 30, 3) := by decide +kernel
theorem dX4_addLeave_12 : decode cX4_addLeave 12 = .ok (.iload 6, 2) := by decide +kernel
theorem dX4_addLeave_14 : decode cX4_addLeave 14 = .ok (.iload_n 1, 1) := by decide +kernel
theorem dX4_addLeave_15 : decode cX4_addLeave 15 = .ok (.iastore, 1) := by decide +kernel
theorem dX4_addLeave_16 : decode cX4_addLeave 16 = .ok (.aload_n 0, 1) := by decide +kernel
theorem dX4_addLeave_17 : decode cX4_addLeave 17 = .ok (.getfield 30, 3) := by decide +kernel
theorem dX4_addLeave_20 : decode cX4_addLeave 20 = .ok (.iload 6, 2) := by decide +kernel
theorem dX4_addLeave_22 : decode cX4_addLeave 22 = .ok (.iconst 1, 1) := by decide +kernel
theorem dX4_addLeave_23 : decode cX4_addLeave 23 = .ok (.iadd, 1) := by decide +kernel
theorem dX4_addLeave_24 : decode cX4_addLeave 24 = .ok (.iload_n 2, 1) := by decide +kernel
theorem dX4_addLeave_25 : decode cX4_addLeave 25 = .ok (.iastore, 1) := by decide +kernel
theorem dX4_addLeave_26 : decode cX4_addLeave 26 = .ok (.aload_n 0, 1) := by decide +kernel
theorem dX4_addLeave_27 : decode cX4_addLeave 27 = .ok (.getfield 30, 3) := by decide +kernel
theorem dX4_addLeave_30 : decode cX4_addLeave 30 = .ok (.iload 6, 2) := by decide +kernel
theorem dX4_addLeave_32 : decode cX4_addLeave 32 = .ok (.iconst 2, 1) := by decide +kernel
theorem dX4_addLeave_33 : decode cX4_addLeave 33 = .ok (.iadd, 1) := by decide +kernel
theorem dX4_addLeave_34 : decode cX4_addLeave 34 = .ok (.iload_n 3, 1) := by decide +kernel
theorem dX4_addLeave_35 : decode cX4_addLeave 35 = .ok (.iastore, 1) := by decide +kernel
theorem dX4_addLeave_36 : decode cX4_addLeave 36 = .ok (.aload_n 0, 1) := by decide +kernel
theorem dX4_addLeave_37 : decode cX4_addLeave 37 = .ok (.getfield 30, 3) := by decide +kernel
theorem dX4_addLeave_40 : decode cX4_addLeave 40 = .ok (.iload 6, 2) := by decide +kernel
theorem dX4_addLeave_42 : decode cX4_addLeave 42 = .ok (.iconst 3, 1) := by decide +kernel
theorem dX4_addLeave_43 : decode cX4_addLeave 43 = .ok (.iadd, 1) := by decide +kernel
theorem dX4_addLeave_44 : decode cX4_addLeave 44 = .ok (.iload 4, 2) := by decide +kernel
theorem dX4_addLeave_46 : decode cX4_addLeave 46 = .ok (.iastore, 1) := by decide +kernel
theorem dX4_addLeave_47 : decode cX4_addLeave 47 = .ok (.aload_n 0, 1) := by decide +kernel
theorem dX4_addLeave_48 : decode cX4_addLeave 48 = .ok (.getfield 30, 3) := by decide +kernel
theorem dX4_addLeave_51 : decode cX4_addLeave 51 = .ok (.iload 6, 2) := by decide +kernel
theorem dX4_addLeave_53 : decode cX4_addLeave 53 = .ok (.iconst 4, 1) := by decide +kernel
theorem dX4_addLeave_54 : decode cX4_addLeave 54 = .ok (.iadd, 1) := by decide +kernel
theorem dX4_addLeave_55 : decode cX4_addLeave 55 = .ok (.iload 5, 2) := by decide +kernel
theorem dX4_addLeave_57 : decode cX4_addLeave 57 = .ok (.iastore, 1) := by decide +kernel
theorem dX4_addLeave_58 : decode cX4_addLeave 58 = .ok (.aload_n 0, 1) := by decide +kernel
theorem dX4_addLeave_59 : decode cX4_addLeave 59 = .ok (.dup, 1) := by decide +kernel
theorem dX4_addLeave_60 : decode cX4_addLeave 60 = .ok (.getfield 49, 3) := by decide +kernel
theorem dX4_addLeave_63 : decode cX4_addLeave 63 = .ok (.iconst 1, 1) := by decide +kernel
theorem dX4_addLeave_64 : decode cX4_addLeave 64 = .ok (.iadd, 1) := by decide +kernel
theorem dX4_addLeave_65 : decode cX4_addLeave 65 = .ok (.putfield 49, 3) := by decide +kernel
theorem dX4_addLeave_68 : decode cX4_addLeave 68 = .ok (.return_, 1) := by decide +kernel
theorem kX4_speaking : zCV yX4_speaking RX4 cX4_speaking 8 (some .int) 4 := ⟨q3_14, q3_15, q1_2, q3_16, rfl, by decide +kernel, by decide +kernel, by decide +kernel⟩
theorem kX4_allowing : zCV yX4_allowing RX4 cX4_allowing 4 (some .int) 0 := ⟨q3_45, q3_46, q1_2, q3_47, rfl, by decide +kernel, by decide +kernel, by decide +kernel⟩
theorem kX4_decider : zCV yX4_decider RX4 cX4_decider 5 (some .int) 4 := ⟨q3_10, q3_11, q1_2, q3_12, rfl, by decide +kernel, by decide +kernel, by decide +kernel⟩
theorem kX4_forbids : zCV yX4_forbids RX4 cX4_forbids 5 (some .boolean) 4 := ⟨q3_65, q3_66, q1_2, q3_67, rfl, by decide +kernel, by decide +kernel, by decide +kernel⟩
theorem kX4_forbidsOneOf : zCV yX4_forbidsOneOf RX4 cX4_forbidsOneOf 8 (some .boolean) 4 := ⟨q3_125, qp15, q1_2, q3_126, rfl, by decide +kernel, by decide +kernel, by decide +kernel⟩
theorem kX4_townsPressing : zCV yX4_townsPressing RX4 cX4_townsPressing 6 (some .int) 3 := ⟨q3_120, q3_121, q1_2, q3_122, rfl, by decide +kernel, by decide +kernel, by decide +kernel⟩
theorem kX4_daysPressed : zCV yX4_daysPressed RX4 cX4_daysPressed 5 (some .int) 2 := ⟨q3_140, q3_141, q1_2, q3_142, rfl, by decide +kernel, by decide +kernel, by decide +kernel⟩
theorem kX4_noteSpeaking : zCV yX4_noteSpeaking RX4 cX4_noteSpeaking 6 none 2 := ⟨q3_90, q3_91, q1_2, q3_92, rfl, by decide +kernel, by decide +kernel, by decide +kernel⟩
theorem kX4_agreesIn : zCV yX4_agreesIn RX4 cX4_agreesIn 8 (some .boolean) 3 := ⟨q3_100, qp13, q1_2, q3_101, rfl, by decide +kernel, by decide +kernel, by decide +kernel⟩
theorem kX4_agrees : zCV yX4_agrees RX4 cX4_agrees 5 (some .boolean) 3 := ⟨q3_95, q3_96, q1_2, q3_97, rfl, by decide +kernel, by decide +kernel, by decide +kernel⟩
theorem kX4_isForged : zCV yX4_isForged RX4 cX4_isForged 4 (some .boolean) 1 := ⟨q3_160, q3_161, q1_2, q3_162, rfl, by decide +kernel, by decide +kernel, by decide +kernel⟩
theorem kX4_addLeave : zCV yX4_addLeave RX4 cX4_addLeave 7 none 5 := ⟨q3_148, q3_149, q1_2, q3_150, rfl, by decide +kernel, by decide +kernel, by decide +kernel⟩
set_option maxHeartbeats 4000000 in
set_option maxRecDepth 100000 in
theorem c_X4_speaking (l : Launch) (g : zG) (b : Nat) (a : Nat → Nat) (T : Nat) (C : Nat) (U : Nat) (V : Nat) (rd : Nat → Int32) (ro : Nat → Int32) (lw : Nat → Option Nat) (pl : Nat → Option Nat) (pc : Nat → Int32) (gv : Nat → Int32) (aw : Nat → Int32) (nt : Nat → Int32) (tw : Int32) (ac : Int32) (dd : Int32) (w : Nat) (n : Nat → Int32) (B : va_W) (X : va_W) (hn : nOK n T C V U) (hrel : relL n T C U V rd ro lw pl pc gv B) (hBX : ∀ x ∈ B, x ∈ X) (hw : w < 4) : Met l yX4_speaking (Cond.code yX4_speaking cX4_speaking 8 (some .int) :: TBL) { frames := 1, cells := 0, slots := 0, locals := 21 } (zPc [.ref b, .int tw, .int ac, .int dd, .int (nI w)] g (lW g b a (nI T) (nI C) (nI U) (nI V) rd ro lw pl pc gv aw nt ++ X)) (zQi g (fun r ws => r = nI (rdB (hP n 0 tw ac dd (nI (w / 2)) (nI (w % 2))) C) ∧ ws = lW g b a (nI T) (nI C) (nI U) (nI V) rd ro lw pl pc gv aw nt ++ X)) 0 0 (zA (gz g)) := by
  refine z_start (by decide +kernel) rfl (Nat.le_of_ble_eq_true rfl) ?_
  intro p e s m args below meth c ls hE hr hnm hB hl
  have hl : lv_has ls 8 [(0, .ref b), (1, .int tw), (2, .int ac), (3, .int dd), (4, .int (nI w))] := hl
  revert hB
  generalize s.heap = H
  generalize ([] : List Loc) = locs
  intro hB
  have hT6 := hn.T6
  have hC8 := hn.C8
  have hV8 := hn.V8
  have hU8 := hn.U8
  refine lv_iconst (v := nI 0) hE.x hE.b dX4_speaking_0 rfl ?_
  refine lv_istore (lv' := [(5, .int (nI 0)), (0, .ref b), (1, .int tw), (2, .int ac), (3, .int dd), (4, .int (nI w))]) hE.x hE.b dX4_speaking_1 hl (by decide) rfl (fun ls hl => ?_)
  refine lv_iconst (v := nI 0) hE.x hE.b dX4_speaking_3 rfl ?_
  refine lv_istore (lv' := [(6, .int (nI 0)), (5, .int (nI 0)), (0, .ref b), (1, .int tw), (2, .int ac), (3, .int dd), (4, .int (nI w))]) hE.x hE.b dX4_speaking_4 hl (by decide) rfl (fun ls hl => ?_)
  have k6 : ∀ (fu : Nat) (i : Nat) (bs : Nat) (H : Heap) (locs : List Loc) (ls : Array Slot), C - i < fu → (i ≤ C) → (bs = rdB (hP n 0 tw ac dd (nI (w / 2)) (nI (w % 2))) i) → zB g s (lW g b a (nI T) (nI C) (nI U) (nI V) rd ro lw pl pc gv aw nt ++ X) H locs → lv_has ls 8 [(6, .int (nI i)), (5, .int (nI bs)), (0, .ref b), (1, .int tw), (2, .int ac), (3, .int dd), (4, .int (nI w))] → W p l e { frames := 1, cells := 0, slots := 0, locals := 21 } s m args below meth c H locs 0 0 (MQ below (zQi g (fun r ws => r = nI (rdB (hP n 0 tw ac dd (nI (w / 2)) (nI (w % 2))) C) ∧ ws = lW g b a (nI T) (nI C) (nI U) (nI V) rd ro lw pl pc gv aw nt ++ X)) args s 0 0 (zA (gz g))) (F0 m 6 ls []) := by
    intro fu
    induction fu with
    | zero => intro i bs H locs ls hfu hi hb hB hl; exact absurd hfu (Nat.not_lt_zero _)
    | succ fu ih6 =>
      intro i bs H locs ls hfu hi hb hB hl
      refine lv_iload hE.x hE.b dX4_speaking_6 (lv_at hl 0 rfl) ?_
      refine lv_aload_n hE.x hE.b dX4_speaking_8 rfl (lv_at hl 2 rfl) ?_
      refine z_get (v := .int (nI C)) hE hB inX4 0 rfl rfl 1 (by decide) q1_36 (fun _ h9 => h9) rfl dX4_speaking_9 ?_
      refine z_ge (tgt := 90) (X := ((i : Nat) : Int)) (Y := ((C : Nat) : Int)) hE dX4_speaking_12 (by decide) (nI_toInt (n := i) (by omega)) (nI_toInt (n := C) (by omega)) (fun c_1 => ?_) (fun c_1 => ?_)
      · refine lv_iload hE.x hE.b dX4_speaking_90 (lv_at hl 1 rfl) ?_
        exact z_iret (v := (nI bs)) (ws := lW g b a (nI T) (nI C) (nI U) (nI V) rd ro lw pl pc gv aw nt ++ X) hE hB hr (⟨by rw [hb, show i = C by omega], rfl⟩) dX4_speaking_92
      · refine lv_aload_n hE.x hE.b dX4_speaking_15 rfl (lv_at hl 2 rfl) ?_
        refine z_get (v := .ref (a 2)) hE hB inX4 0 rfl rfl 6 (by decide) q1_45 (fun _ h9 => h9) rfl dX4_speaking_16 ?_
        refine lv_iload hE.x hE.b dX4_speaking_19 (lv_at hl 0 rfl) ?_
        refine z_nald (k := i) (f := lw) hE hB 3 rfl (by omega) (by decide) dX4_speaking_21 ?_
        obtain ⟨q, k, hq, hk, hnk, hm⟩ := hrel.2.2.1 i (by omega)
        refine z_topv (show va_rf (lw i) = Value.ref q by rw [hq]; rfl) ?_
        refine lv_astore (lv' := [(7, .ref q), (6, .int (nI i)), (5, .int (nI bs)), (0, .ref b), (1, .int tw), (2, .int ac), (3, .int dd), (4, .int (nI w))]) hE.x hE.b dX4_speaking_22 hl (by decide) rfl (fun ls hl => ?_)
        refine lv_aload hE.x hE.b dX4_speaking_24 (lv_at hl 0 rfl) ?_
        refine lv_ifnull hE.x hE.b dX4_speaking_26 ?_
        refine lv_aload hE.x hE.b dX4_speaking_29 (lv_at hl 0 rfl) ?_
        refine z_getb (v := .int (n (46 + 5 * i + 1))) hE hB hk (List.mem_append_right _ (hBX _ hm)) 1 (by decide) q1_185 (fun _ h9 => h9) rfl dX4_speaking_31 ?_
        refine lv_iload_n hE.x hE.b dX4_speaking_34 rfl (lv_at hl 5 rfl) ?_
        refine lv_icmp_ne (tgt := 84) hE.x hE.b dX4_speaking_35 (by decide) (fun c_2 => ?_) (fun c_2 => ?_)
        · refine lv_iinc (v := (nI (i + 1))) (lv' := [(6, .int (nI (i + 1))), (7, .ref q), (5, .int (nI bs)), (0, .ref b), (1, .int tw), (2, .int ac), (3, .int dd), (4, .int (nI w))]) hE.x hE.b dX4_speaking_84 hl (k := 1) rfl (nI_add _ _) (by decide) rfl (fun ls hl => ?_)
          refine lv_goto (tgt := 6) hE.x hE.b dX4_speaking_87 (by decide) ?_
          exact ih6 (i + 1) bs _ _ _ (by omega) (by omega) (rdB_k hb (by rw [hP_of hnk, decide_eq_false c_2, Bool.false_and])) hB (lv_sub hl [0, 2, 3, 4, 5, 6, 7] rfl)
        · refine lv_iload_n hE.x hE.b dX4_speaking_38 rfl (lv_at hl 6 rfl) ?_
          refine lv_aload hE.x hE.b dX4_speaking_39 (lv_at hl 0 rfl) ?_
          refine z_getb (v := .int (n (46 + 5 * i + 2))) hE hB hk (List.mem_append_right _ (hBX _ hm)) 2 (by decide) q1_190 (fun _ h9 => h9) rfl dX4_speaking_41 ?_
          refine z_lt (tgt := 84) (X := dd.toInt) (Y := (n (46 + 5 * i + 2)).toInt) hE dX4_speaking_44 (by decide) rfl rfl (fun c_3 => ?_) (fun c_3 => ?_)
          · refine lv_iinc (v := (nI (i + 1))) (lv' := [(6, .int (nI (i + 1))), (7, .ref q), (5, .int (nI bs)), (0, .ref b), (1, .int tw), (2, .int ac), (3, .int dd), (4, .int (nI w))]) hE.x hE.b dX4_speaking_84 hl (k := 1) rfl (nI_add _ _) (by decide) rfl (fun ls hl => ?_)
            refine lv_goto (tgt := 6) hE.x hE.b dX4_speaking_87 (by decide) ?_
            exact ih6 (i + 1) bs _ _ _ (by omega) (by omega) (rdB_k hb (by rw [hP_of hnk, show decide ((n (46 + 5 * i + 2)).toInt ≤ dd.toInt) = false from decide_eq_false (by omega)]; simp)) hB (lv_sub hl [0, 2, 3, 4, 5, 6, 7] rfl)
          · refine lv_iload_n hE.x hE.b dX4_speaking_47 rfl (lv_at hl 6 rfl) ?_
            refine lv_aload hE.x hE.b dX4_speaking_48 (lv_at hl 0 rfl) ?_
            refine z_qi hB (v_end hE hB q3_17 hk (List.mem_append_right _ (hBX _ hm)) ⟨Nat.le_of_ble_eq_true rfl, Nat.le_of_ble_eq_true rfl⟩ hl.1 (Nat.le_of_ble_eq_true rfl) dX4_speaking_50 ⟨Nat.le_of_ble_eq_true rfl, Nat.le_of_ble_eq_true rfl⟩) (fun r9 w9 H locs hw hB => ?_)
            obtain ⟨hr9, hw9⟩ := hw
            have hr9 := hr9.symm
            subst hr9
            have hw9 := hw9.symm
            subst hw9
            refine z_ge (tgt := 84) (X := dd.toInt) (Y := (endV k (n (46 + 5 * i + 2)) (n (46 + 5 * i + 3))).toInt) hE dX4_speaking_53 (by decide) rfl rfl (fun c_4 => ?_) (fun c_4 => ?_)
            · refine lv_iinc (v := (nI (i + 1))) (lv' := [(6, .int (nI (i + 1))), (7, .ref q), (5, .int (nI bs)), (0, .ref b), (1, .int tw), (2, .int ac), (3, .int dd), (4, .int (nI w))]) hE.x hE.b dX4_speaking_84 hl (k := 1) rfl (nI_add _ _) (by decide) rfl (fun ls hl => ?_)
              refine lv_goto (tgt := 6) hE.x hE.b dX4_speaking_87 (by decide) ?_
              exact ih6 (i + 1) bs _ _ _ (by omega) (by omega) (rdB_k hb (by rw [hP_of hnk, show decide (dd.toInt < (endV k (n (46 + 5 * i + 2)) (n (46 + 5 * i + 3))).toInt) = false from decide_eq_false (by omega)]; simp)) hB (lv_sub hl [0, 2, 3, 4, 5, 6, 7] rfl)
            · refine lv_aload hE.x hE.b dX4_speaking_56 (lv_at hl 0 rfl) ?_
              refine lv_iload_n hE.x hE.b dX4_speaking_58 rfl (lv_at hl 4 rfl) ?_
              refine z_qi hB (v_speaksIn hE hB q3_18 hk (List.mem_append_right _ (hBX _ hm)) ⟨Nat.le_of_ble_eq_true rfl, Nat.le_of_ble_eq_true rfl⟩ hl.1 (Nat.le_of_ble_eq_true rfl) dX4_speaking_59 ⟨Nat.le_of_ble_eq_true rfl, Nat.le_of_ble_eq_true rfl⟩) (fun r9 w9 H locs hw hB => ?_)
              obtain ⟨hr9, hw9⟩ := hw
              have hr9 := hr9.symm
              subst hr9
              have hw9 := hw9.symm
              subst hw9
              refine z_bf (b := (spIn k (n (46 + 5 * i + 4)) tw)) (tgt := 84) hE dX4_speaking_62 (by decide) (fun c_5 => ?_) (fun c_5 => ?_)
              · refine lv_iinc (v := (nI (i + 1))) (lv' := [(6, .int (nI (i + 1))), (7, .ref q), (5, .int (nI bs)), (0, .ref b), (1, .int tw), (2, .int ac), (3, .int dd), (4, .int (nI w))]) hE.x hE.b dX4_speaking_84 hl (k := 1) rfl (nI_add _ _) (by decide) rfl (fun ls hl => ?_)
                refine lv_goto (tgt := 6) hE.x hE.b dX4_speaking_87 (by decide) ?_
                exact ih6 (i + 1) bs _ _ _ (by omega) (by omega) (rdB_k hb (by rw [hP_of hnk, c_5]; simp)) hB (lv_sub hl [0, 2, 3, 4, 5, 6, 7] rfl)
              · refine lv_aload hE.x hE.b dX4_speaking_65 (lv_at hl 0 rfl) ?_
                refine lv_iload hE.x hE.b dX4_speaking_67 (lv_at hl 7 rfl) ?_
                refine z_qi hB (v_speaksTo hE hB q3_30 hk (List.mem_append_right _ (hBX _ hm)) (by omega) ⟨Nat.le_of_ble_eq_true rfl, Nat.le_of_ble_eq_true rfl⟩ hl.1 (Nat.le_of_ble_eq_true rfl) dX4_speaking_69 ⟨Nat.le_of_ble_eq_true rfl, Nat.le_of_ble_eq_true rfl⟩) (fun r9 w9 H locs hw hB => ?_)
                obtain ⟨hr9, hw9⟩ := hw
                have hr9 := hr9.symm
                subst hr9
                have hw9 := hw9.symm
                subst hw9
                refine z_bf (b := (spTo k w)) (tgt := 84) hE dX4_speaking_72 (by decide) (fun c_6 => ?_) (fun c_6 => ?_)
                · refine lv_iinc (v := (nI (i + 1))) (lv' := [(6, .int (nI (i + 1))), (7, .ref q), (5, .int (nI bs)), (0, .ref b), (1, .int tw), (2, .int ac), (3, .int dd), (4, .int (nI w))]) hE.x hE.b dX4_speaking_84 hl (k := 1) rfl (nI_add _ _) (by decide) rfl (fun ls hl => ?_)
                  refine lv_goto (tgt := 6) hE.x hE.b dX4_speaking_87 (by decide) ?_
                  exact ih6 (i + 1) bs _ _ _ (by omega) (by omega) (rdB_k hb (by rw [hP_of hnk, c_6]; simp)) hB (lv_sub hl [0, 2, 3, 4, 5, 6, 7] rfl)
                · refine lv_iload hE.x hE.b dX4_speaking_75 (lv_at hl 2 rfl) ?_
                  refine lv_iconst (v := nI 1) hE.x hE.b dX4_speaking_77 rfl ?_
                  refine lv_iload hE.x hE.b dX4_speaking_78 (lv_at hl 1 rfl) ?_
                  refine lv_ishl hE.x hE.b dX4_speaking_80 ?_
                  refine z_top (y := (nI (2 ^ i))) (shl_8 i (by omega)) ?_
                  refine lv_ior hE.x hE.b dX4_speaking_81 ?_
                  refine z_top (y := (nI (bs ||| 2 ^ i))) (or_nI _ _) ?_
                  refine lv_istore (lv' := [(5, .int (nI (bs ||| 2 ^ i))), (7, .ref q), (6, .int (nI i)), (0, .ref b), (1, .int tw), (2, .int ac), (3, .int dd), (4, .int (nI w))]) hE.x hE.b dX4_speaking_82 hl (by decide) rfl (fun ls hl => ?_)
                  refine lv_iinc (v := (nI (i + 1))) (lv' := [(6, .int (nI (i + 1))), (5, .int (nI (bs ||| 2 ^ i))), (7, .ref q), (0, .ref b), (1, .int tw), (2, .int ac), (3, .int dd), (4, .int (nI w))]) hE.x hE.b dX4_speaking_84 hl (k := 2) rfl (nI_add _ _) (by decide) rfl (fun ls hl => ?_)
                  refine lv_goto (tgt := 6) hE.x hE.b dX4_speaking_87 (by decide) ?_
                  exact ih6 (i + 1) (bs ||| 2 ^ i) _ _ _ (by omega) (by omega) (rdB_y hb (by rw [hP_of hnk, decide_eq_true c_2, show decide ((n (46 + 5 * i + 2)).toInt ≤ dd.toInt) = true from decide_eq_true (by omega), show decide (dd.toInt < (endV k (n (46 + 5 * i + 2)) (n (46 + 5 * i + 3))).toInt) = true from decide_eq_true (by omega), c_5, c_6]; rfl)) hB (lv_sub hl [0, 1, 3, 4, 5, 6, 7] rfl)
  exact k6 (C - 0 + 1) 0 0 _ _ _ (Nat.lt_succ_self _) (by omega) rfl hB hl

set_option maxHeartbeats 4000000 in
set_option maxRecDepth 100000 in
theorem c_X4_allowing (l : Launch) (g : zG) (b : Nat) (a : Nat → Nat) (T : Nat) (C : Nat) (U : Nat) (V : Nat) (rd : Nat → Int32) (ro : Nat → Int32) (lw : Nat → Option Nat) (pl : Nat → Option Nat) (pc : Nat → Int32) (gv : Nat → Int32) (aw : Nat → Int32) (nt : Nat → Int32) (n : Nat → Int32) (B : va_W) (X : va_W) (hn : nOK n T C V U) (hrel : relL n T C U V rd ro lw pl pc gv B) (hBX : ∀ x ∈ B, x ∈ X) : Met l yX4_allowing (Cond.code yX4_allowing cX4_allowing 4 (some .int) :: TBL) { frames := 1, cells := 0, slots := 0, locals := 21 } (zPc [.ref b] g (lW g b a (nI T) (nI C) (nI U) (nI V) rd ro lw pl pc gv aw nt ++ X)) (zQi g (fun r ws => r = nI (rdB (fun c => alw (n (46 + 5 * c + 0))) C) ∧ ws = lW g b a (nI T) (nI C) (nI U) (nI V) rd ro lw pl pc gv aw nt ++ X)) 0 0 (zA (gz g)) := by
  refine z_start (by decide +kernel) rfl (Nat.le_of_ble_eq_true rfl) ?_
  intro p e s m args below meth c ls hE hr hnm hB hl
  have hl : lv_has ls 4 [(0, .ref b)] := hl
  revert hB
  generalize s.heap = H
  generalize ([] : List Loc) = locs
  intro hB
  have hT6 := hn.T6
  have hC8 := hn.C8
  have hV8 := hn.V8
  have hU8 := hn.U8
  refine lv_iconst (v := nI 0) hE.x hE.b dX4_allowing_0 rfl ?_
  refine lv_istore_n (lv' := [(1, .int (nI 0)), (0, .ref b)]) hE.x hE.b dX4_allowing_1 rfl hl (by decide) rfl (fun ls hl => ?_)
  refine lv_iconst (v := nI 0) hE.x hE.b dX4_allowing_2 rfl ?_
  refine lv_istore_n (lv' := [(2, .int (nI 0)), (1, .int (nI 0)), (0, .ref b)]) hE.x hE.b dX4_allowing_3 rfl hl (by decide) rfl (fun ls hl => ?_)
  have k4 : ∀ (fu : Nat) (i : Nat) (bs : Nat) (H : Heap) (locs : List Loc) (ls : Array Slot), C - i < fu → (i ≤ C) → (bs = rdB (fun c => alw (n (46 + 5 * c + 0))) i) → zB g s (lW g b a (nI T) (nI C) (nI U) (nI V) rd ro lw pl pc gv aw nt ++ X) H locs → lv_has ls 4 [(2, .int (nI i)), (1, .int (nI bs)), (0, .ref b)] → W p l e { frames := 1, cells := 0, slots := 0, locals := 21 } s m args below meth c H locs 0 0 (MQ below (zQi g (fun r ws => r = nI (rdB (fun c => alw (n (46 + 5 * c + 0))) C) ∧ ws = lW g b a (nI T) (nI C) (nI U) (nI V) rd ro lw pl pc gv aw nt ++ X)) args s 0 0 (zA (gz g))) (F0 m 4 ls []) := by
    intro fu
    induction fu with
    | zero => intro i bs H locs ls hfu hi hb hB hl; exact absurd hfu (Nat.not_lt_zero _)
    | succ fu ih4 =>
      intro i bs H locs ls hfu hi hb hB hl
      refine lv_iload_n hE.x hE.b dX4_allowing_4 rfl (lv_at hl 0 rfl) ?_
      refine lv_aload_n hE.x hE.b dX4_allowing_5 rfl (lv_at hl 2 rfl) ?_
      refine z_get (v := .int (nI C)) hE hB inX4 0 rfl rfl 1 (by decide) q1_36 (fun _ h9 => h9) rfl dX4_allowing_6 ?_
      refine z_ge (tgt := 42) (X := ((i : Nat) : Int)) (Y := ((C : Nat) : Int)) hE dX4_allowing_9 (by decide) (nI_toInt (n := i) (by omega)) (nI_toInt (n := C) (by omega)) (fun c_1 => ?_) (fun c_1 => ?_)
      · refine lv_iload_n hE.x hE.b dX4_allowing_42 rfl (lv_at hl 1 rfl) ?_
        exact z_iret (v := (nI bs)) (ws := lW g b a (nI T) (nI C) (nI U) (nI V) rd ro lw pl pc gv aw nt ++ X) hE hB hr (⟨by rw [hb, show i = C by omega], rfl⟩) dX4_allowing_43
      · refine lv_aload_n hE.x hE.b dX4_allowing_12 rfl (lv_at hl 2 rfl) ?_
        refine z_get (v := .ref (a 2)) hE hB inX4 0 rfl rfl 6 (by decide) q1_45 (fun _ h9 => h9) rfl dX4_allowing_13 ?_
        refine lv_iload_n hE.x hE.b dX4_allowing_16 rfl (lv_at hl 0 rfl) ?_
        refine z_nald (k := i) (f := lw) hE hB 3 rfl (by omega) (by decide) dX4_allowing_17 ?_
        obtain ⟨q, k, hq, hk, hnk, hm⟩ := hrel.2.2.1 i (by omega)
        refine z_topv (show va_rf (lw i) = Value.ref q by rw [hq]; rfl) ?_
        refine lv_astore_n (lv' := [(3, .ref q), (2, .int (nI i)), (1, .int (nI bs)), (0, .ref b)]) hE.x hE.b dX4_allowing_18 rfl hl (by decide) rfl (fun ls hl => ?_)
        refine lv_aload_n hE.x hE.b dX4_allowing_19 rfl (lv_at hl 0 rfl) ?_
        refine lv_ifnull hE.x hE.b dX4_allowing_20 ?_
        refine lv_aload_n hE.x hE.b dX4_allowing_23 rfl (lv_at hl 0 rfl) ?_
        refine z_qi hB (v_allows hE hB q3_48 hk (List.mem_append_right _ (hBX _ hm)) ⟨Nat.le_of_ble_eq_true rfl, Nat.le_of_ble_eq_true rfl⟩ hl.1 (Nat.le_of_ble_eq_true rfl) dX4_allowing_24 ⟨Nat.le_of_ble_eq_true rfl, Nat.le_of_ble_eq_true rfl⟩) (fun r9 w9 H locs hw hB => ?_)
        obtain ⟨hr9, hw9⟩ := hw
        have hr9 := hr9.symm
        subst hr9
        have hw9 := hw9.symm
        subst hw9
        refine z_bf (b := (alw (nI k))) (tgt := 36) hE dX4_allowing_27 (by decide) (fun c_2 => ?_) (fun c_2 => ?_)
        · refine lv_iinc (v := (nI (i + 1))) (lv' := [(2, .int (nI (i + 1))), (3, .ref q), (1, .int (nI bs)), (0, .ref b)]) hE.x hE.b dX4_allowing_36 hl (k := 1) rfl (nI_add _ _) (by decide) rfl (fun ls hl => ?_)
          refine lv_goto (tgt := 4) hE.x hE.b dX4_allowing_39 (by decide) ?_
          exact ih4 (i + 1) bs _ _ _ (by omega) (by omega) (rdB_k hb (alw_k (n := n) (c := i) hnk c_2)) hB (lv_sub hl [0, 2, 3] rfl)
        · refine lv_iload_n hE.x hE.b dX4_allowing_30 rfl (lv_at hl 2 rfl) ?_
          refine lv_iconst (v := nI 1) hE.x hE.b dX4_allowing_31 rfl ?_
          refine lv_iload_n hE.x hE.b dX4_allowing_32 rfl (lv_at hl 1 rfl) ?_
          refine lv_ishl hE.x hE.b dX4_allowing_33 ?_
          refine z_top (y := (nI (2 ^ i))) (shl_8 i (by omega)) ?_
          refine lv_ior hE.x hE.b dX4_allowing_34 ?_
          refine z_top (y := (nI (bs ||| 2 ^ i))) (or_nI _ _) ?_
          refine lv_istore_n (lv' := [(1, .int (nI (bs ||| 2 ^ i))), (3, .ref q), (2, .int (nI i)), (0, .ref b)]) hE.x hE.b dX4_allowing_35 rfl hl (by decide) rfl (fun ls hl => ?_)
          refine lv_iinc (v := (nI (i + 1))) (lv' := [(2, .int (nI (i + 1))), (1, .int (nI (bs ||| 2 ^ i))), (3, .ref q), (0, .ref b)]) hE.x hE.b dX4_allowing_36 hl (k := 2) rfl (nI_add _ _) (by decide) rfl (fun ls hl => ?_)
          refine lv_goto (tgt := 4) hE.x hE.b dX4_allowing_39 (by decide) ?_
          exact ih4 (i + 1) (bs ||| 2 ^ i) _ _ _ (by omega) (by omega) (rdB_y hb (alw_k (n := n) (c := i) hnk c_2)) hB (lv_sub hl [0, 1, 3] rfl)
  exact k4 (C - 0 + 1) 0 0 _ _ _ (Nat.lt_succ_self _) (by omega) rfl hB hl

set_option maxHeartbeats 4000000 in
set_option maxRecDepth 100000 in
theorem c_X4_decider (l : Launch) (g : zG) (b : Nat) (a : Nat → Nat) (T : Nat) (C : Nat) (U : Nat) (V : Nat) (rd : Nat → Int32) (ro : Nat → Int32) (lw : Nat → Option Nat) (pl : Nat → Option Nat) (pc : Nat → Int32) (gv : Nat → Int32) (aw : Nat → Int32) (nt : Nat → Int32) (t : Nat) (ac : Int32) (dd : Int32) (w : Nat) (n : Nat → Int32) (B : va_W) (X : va_W) (hn : nOK n T C V U) (hrel : relL n T C U V rd ro lw pl pc gv B) (hBX : ∀ x ∈ B, x ∈ X) (ht : t < T) (hw : w < 4) : Met l yX4_decider (Cond.code yX4_decider cX4_decider 5 (some .int) :: TBL) { frames := 2, cells := 0, slots := 0, locals := 48 } (zPc [.ref b, .int (nI t), .int ac, .int dd, .int (nI w)] g (lW g b a (nI T) (nI C) (nI U) (nI V) rd ro lw pl pc gv aw nt ++ X)) (zQi g (fun r ws => r = (oI (decN n C t ac dd (nI (w / 2)) (nI (w % 2)) 0)) ∧ ws = lW g b a (nI T) (nI C) (nI U) (nI V) rd ro lw pl pc gv aw nt ++ X)) 0 0 (zA (gz g)) := by
  refine z_start (by decide +kernel) rfl (Nat.le_of_ble_eq_true rfl) ?_
  intro p e s m args below meth c ls hE hr hnm hB hl
  have hl : lv_has ls 5 [(0, .ref b), (1, .int (nI t)), (2, .int ac), (3, .int dd), (4, .int (nI w))] := hl
  revert hB
  generalize s.heap = H
  generalize ([] : List Loc) = locs
  intro hB
  have hT6 := hn.T6
  have hC8 := hn.C8
  have hV8 := hn.V8
  have hU8 := hn.U8
  refine lv_aload_n hE.x hE.b dX4_decider_0 rfl (lv_at hl 0 rfl) ?_
  refine z_get (v := .ref (a 0)) hE hB inX4 0 rfl rfl 4 (by decide) q1_43 (fun _ h9 => h9) rfl dX4_decider_1 ?_
  refine lv_iload_n hE.x hE.b dX4_decider_4 rfl (lv_at hl 1 rfl) ?_
  refine z_iald (k := t) (f := rd) hE hB 1 rfl (by omega) (by decide) dX4_decider_5 ?_
  refine z_top (y := (n (4 + t))) (hrel.1 t ht) ?_
  refine lv_aload_n hE.x hE.b dX4_decider_6 rfl (lv_at hl 0 rfl) ?_
  refine lv_iload_n hE.x hE.b dX4_decider_7 rfl (lv_at hl 1 rfl) ?_
  refine lv_iload_n hE.x hE.b dX4_decider_8 rfl (lv_at hl 2 rfl) ?_
  refine lv_iload_n hE.x hE.b dX4_decider_9 rfl (lv_at hl 3 rfl) ?_
  refine lv_iload hE.x hE.b dX4_decider_10 (lv_at hl 4 rfl) ?_
  refine z_qi hB (z_cV hE hB (c_X4_speaking l g b a T C U V rd ro lw pl pc gv aw nt (nI t) ac dd w n B X hn hrel hBX (by omega)) q3_13 kX4_speaking ⟨rfl, rfl⟩ ⟨Nat.le_of_ble_eq_true rfl, Nat.le_of_ble_eq_true rfl⟩ 0 rfl rfl rfl hl.1 rfl (Nat.le_of_ble_eq_true rfl) dX4_decider_12 ⟨Nat.le_of_ble_eq_true rfl, Nat.le_of_ble_eq_true rfl⟩) (fun r_1 w_2 H locs hw hB => ?_)
  obtain ⟨hr9, hw9⟩ := hw
  have hr9 := hr9.symm
  subst hr9
  have hw9 := hw9.symm
  subst hw9
  refine lv_aload_n hE.x hE.b dX4_decider_15 rfl (lv_at hl 0 rfl) ?_
  refine z_qi hB (z_cV hE hB (c_X4_allowing l g b a T C U V rd ro lw pl pc gv aw nt n B X hn hrel hBX) q3_44 kX4_allowing ⟨rfl, rfl⟩ ⟨Nat.le_of_ble_eq_true rfl, Nat.le_of_ble_eq_true rfl⟩ 0 rfl rfl rfl hl.1 rfl (Nat.le_of_ble_eq_true rfl) dX4_decider_16 ⟨Nat.le_of_ble_eq_true rfl, Nat.le_of_ble_eq_true rfl⟩) (fun r_3 w_4 H locs hw hB => ?_)
  obtain ⟨hr9, hw9⟩ := hw
  have hr9 := hr9.symm
  subst hr9
  have hw9 := hw9.symm
  subst hw9
  refine z_qi hB (z_cSN hE hB (c_X8_deciding l g (n (4 + t)) (rdB (hP n 0 (nI t) ac dd (nI (w / 2)) (nI (w % 2))) C) (rdB (fun c => alw (n (46 + 5 * c + 0))) C) (hP n 0 (nI t) ac dd (nI (w / 2)) (nI (w % 2))) (fun c => alw (n (46 + 5 * c + 0))) C (lW g b a (nI T) (nI C) (nI U) (nI V) rd ro lw pl pc gv aw nt ++ X) rfl rfl (by omega)) hE.2.1.2.1.2.2.2.1 kX8_deciding ⟨rfl, rfl⟩ ⟨Nat.le_of_ble_eq_true rfl, Nat.le_of_ble_eq_true rfl⟩ rfl hl.1 rfl (Nat.le_of_ble_eq_true rfl) dX4_decider_19 ⟨Nat.le_of_ble_eq_true rfl, Nat.le_of_ble_eq_true rfl⟩) (fun r_5 w_6 H locs hw hB => ?_)
  obtain ⟨hr9, hw9⟩ := hw
  have hr9 := hr9.symm
  subst hr9
  have hw9 := hw9.symm
  subst hw9
  exact z_iret (v := (oI (decQ (fun c => alw (n (46 + 5 * c + 0))) C (n (4 + t)) (hP n 0 (nI t) ac dd (nI (w / 2)) (nI (w % 2)))))) (ws := lW g b a (nI T) (nI C) (nI U) (nI V) rd ro lw pl pc gv aw nt ++ X) hE hB hr (⟨rfl, rfl⟩) dX4_decider_22

set_option maxHeartbeats 4000000 in
set_option maxRecDepth 100000 in
theorem c_X4_forbids (l : Launch) (g : zG) (b : Nat) (a : Nat → Nat) (T : Nat) (C : Nat) (U : Nat) (V : Nat) (rd : Nat → Int32) (ro : Nat → Int32) (lw : Nat → Option Nat) (pl : Nat → Option Nat) (pc : Nat → Int32) (gv : Nat → Int32) (aw : Nat → Int32) (nt : Nat → Int32) (t : Nat) (ac : Int32) (dd : Int32) (w : Nat) (n : Nat → Int32) (B : va_W) (X : va_W) (hn : nOK n T C V U) (hrel : relL n T C U V rd ro lw pl pc gv B) (hBX : ∀ x ∈ B, x ∈ X) (ht : t < T) (hw : w < 4) : Met l yX4_forbids (Cond.code yX4_forbids cX4_forbids 5 (some .boolean) :: TBL) { frames := 3, cells := 0, slots := 0, locals := 68 } (zPc [.ref b, .int (nI t), .int ac, .int dd, .int (nI w)] g (lW g b a (nI T) (nI C) (nI U) (nI V) rd ro lw pl pc gv aw nt ++ X)) (zQi g (fun r ws => r = bI (!isA n C t ac dd (nI (w / 2)) (nI (w % 2)) 0) ∧ ws = lW g b a (nI T) (nI C) (nI U) (nI V) rd ro lw pl pc gv aw nt ++ X)) 0 0 (zA (gz g)) := by
  refine z_start (by decide +kernel) rfl (Nat.le_of_ble_eq_true rfl) ?_
  intro p e s m args below meth c ls hE hr hnm hB hl
  have hl : lv_has ls 5 [(0, .ref b), (1, .int (nI t)), (2, .int ac), (3, .int dd), (4, .int (nI w))] := hl
  revert hB
  generalize s.heap = H
  generalize ([] : List Loc) = locs
  intro hB
  have hT6 := hn.T6
  have hC8 := hn.C8
  have hV8 := hn.V8
  have hU8 := hn.U8
  refine lv_aload_n hE.x hE.b dX4_forbids_0 rfl (lv_at hl 0 rfl) ?_
  refine z_get (v := .ref (a 0)) hE hB inX4 0 rfl rfl 4 (by decide) q1_43 (fun _ h9 => h9) rfl dX4_forbids_1 ?_
  refine lv_iload_n hE.x hE.b dX4_forbids_4 rfl (lv_at hl 1 rfl) ?_
  refine z_iald (k := t) (f := rd) hE hB 1 rfl (by omega) (by decide) dX4_forbids_5 ?_
  refine z_top (y := (n (4 + t))) (hrel.1 t ht) ?_
  refine lv_aload_n hE.x hE.b dX4_forbids_6 rfl (lv_at hl 0 rfl) ?_
  refine lv_iload_n hE.x hE.b dX4_forbids_7 rfl (lv_at hl 1 rfl) ?_
  refine lv_iload_n hE.x hE.b dX4_forbids_8 rfl (lv_at hl 2 rfl) ?_
  refine lv_iload_n hE.x hE.b dX4_forbids_9 rfl (lv_at hl 3 rfl) ?_
  refine lv_iload hE.x hE.b dX4_forbids_10 (lv_at hl 4 rfl) ?_
  refine z_qi hB (z_cV hE hB (c_X4_speaking l g b a T C U V rd ro lw pl pc gv aw nt (nI t) ac dd w n B X hn hrel hBX (by omega)) q3_13 kX4_speaking ⟨rfl, rfl⟩ ⟨Nat.le_of_ble_eq_true rfl, Nat.le_of_ble_eq_true rfl⟩ 0 rfl rfl rfl hl.1 rfl (Nat.le_of_ble_eq_true rfl) dX4_forbids_12 ⟨Nat.le_of_ble_eq_true rfl, Nat.le_of_ble_eq_true rfl⟩) (fun r_1 w_2 H locs hw hB => ?_)
  obtain ⟨hr9, hw9⟩ := hw
  have hr9 := hr9.symm
  subst hr9
  have hw9 := hw9.symm
  subst hw9
  refine lv_aload_n hE.x hE.b dX4_forbids_15 rfl (lv_at hl 0 rfl) ?_
  refine z_qi hB (z_cV hE hB (c_X4_allowing l g b a T C U V rd ro lw pl pc gv aw nt n B X hn hrel hBX) q3_44 kX4_allowing ⟨rfl, rfl⟩ ⟨Nat.le_of_ble_eq_true rfl, Nat.le_of_ble_eq_true rfl⟩ 0 rfl rfl rfl hl.1 rfl (Nat.le_of_ble_eq_true rfl) dX4_forbids_16 ⟨Nat.le_of_ble_eq_true rfl, Nat.le_of_ble_eq_true rfl⟩) (fun r_3 w_4 H locs hw hB => ?_)
  obtain ⟨hr9, hw9⟩ := hw
  have hr9 := hr9.symm
  subst hr9
  have hw9 := hw9.symm
  subst hw9
  refine z_qi hB (z_cSN hE hB (c_X8_forbidden l g (n (4 + t)) (rdB (hP n 0 (nI t) ac dd (nI (w / 2)) (nI (w % 2))) C) (rdB (fun c => alw (n (46 + 5 * c + 0))) C) (hP n 0 (nI t) ac dd (nI (w / 2)) (nI (w % 2))) (fun c => alw (n (46 + 5 * c + 0))) C (lW g b a (nI T) (nI C) (nI U) (nI V) rd ro lw pl pc gv aw nt ++ X) rfl rfl (by omega)) hE.2.1.2.1.2.2.2.2.1 kX8_forbidden ⟨rfl, rfl⟩ ⟨Nat.le_of_ble_eq_true rfl, Nat.le_of_ble_eq_true rfl⟩ rfl hl.1 rfl (Nat.le_of_ble_eq_true rfl) dX4_forbids_19 ⟨Nat.le_of_ble_eq_true rfl, Nat.le_of_ble_eq_true rfl⟩) (fun r_5 w_6 H locs hw hB => ?_)
  obtain ⟨hr9, hw9⟩ := hw
  have hr9 := hr9.symm
  subst hr9
  have hw9 := hw9.symm
  subst hw9
  refine z_top (y := (bI (!isA n C t ac dd (nI (w / 2)) (nI (w % 2)) 0))) (congrArg bI frb_N) ?_
  exact z_bret (b := (!isA n C t ac dd (nI (w / 2)) (nI (w % 2)) 0)) (ws := lW g b a (nI T) (nI C) (nI U) (nI V) rd ro lw pl pc gv aw nt ++ X) hE hB hr (⟨rfl, rfl⟩) dX4_forbids_22

set_option maxHeartbeats 4000000 in
set_option maxRecDepth 100000 in
theorem c_X4_forbidsOneOf (l : Launch) (g : zG) (b : Nat) (a : Nat → Nat) (T : Nat) (C : Nat) (U : Nat) (V : Nat) (rd : Nat → Int32) (ro : Nat → Int32) (lw : Nat → Option Nat) (pl : Nat → Option Nat) (pc : Nat → Int32) (gv : Nat → Int32) (aw : Nat → Int32) (nt : Nat → Int32) (ac : Nat) (t : Nat) (dd : Int32) (S : Nat) (n : Nat → Int32) (B : va_W) (X : va_W) (hn : nOK n T C V U) (hrel : relL n T C U V rd ro lw pl pc gv B) (hBX : ∀ x ∈ B, x ∈ X) (hac : ac < 64) (ht : t < T) : Met l yX4_forbidsOneOf (Cond.code yX4_forbidsOneOf cX4_forbidsOneOf 8 (some .boolean) :: TBL) { frames := 3, cells := 0, slots := 0, locals := 68 } (zPc [.ref b, .int (nI ac), .int (nI t), .int dd, .int (nI S)] g (lW g b a (nI T) (nI C) (nI U) (nI V) rd ro lw pl pc gv aw nt ++ X)) (zQi g (fun r ws => r = bI (fbB (acAl n C dd S) ac t) ∧ ws = lW g b a (nI T) (nI C) (nI U) (nI V) rd ro lw pl pc gv aw nt ++ X)) 0 0 (zA (gz g)) := by
  refine z_start (by decide +kernel) rfl (Nat.le_of_ble_eq_true rfl) ?_
  intro p e s m args below meth c ls hE hr hnm hB hl
  have hl : lv_has ls 8 [(0, .ref b), (1, .int (nI ac)), (2, .int (nI t)), (3, .int dd), (4, .int (nI S))] := hl
  revert hB
  generalize s.heap = H
  generalize ([] : List Loc) = locs
  intro hB
  have hT6 := hn.T6
  have hC8 := hn.C8
  have hV8 := hn.V8
  have hU8 := hn.U8
  refine lv_aload_n hE.x hE.b dX4_forbidsOneOf_0 rfl (lv_at hl 0 rfl) ?_
  refine z_qi hB (z_cV hE hB (c_X4_allowing l g b a T C U V rd ro lw pl pc gv aw nt n B X hn hrel hBX) q3_44 kX4_allowing ⟨rfl, rfl⟩ ⟨Nat.le_of_ble_eq_true rfl, Nat.le_of_ble_eq_true rfl⟩ 0 rfl rfl rfl hl.1 rfl (Nat.le_of_ble_eq_true rfl) dX4_forbidsOneOf_1 ⟨Nat.le_of_ble_eq_true rfl, Nat.le_of_ble_eq_true rfl⟩) (fun r_1 w_2 H locs hw hB => ?_)
  obtain ⟨hr9, hw9⟩ := hw
  have hr9 := hr9.symm
  subst hr9
  have hw9 := hw9.symm
  subst hw9
  refine lv_istore (lv' := [(5, .int (nI (rdB (fun c => alw (n (46 + 5 * c + 0))) C))), (0, .ref b), (1, .int (nI ac)), (2, .int (nI t)), (3, .int dd), (4, .int (nI S))]) hE.x hE.b dX4_forbidsOneOf_4 hl (by decide) rfl (fun ls hl => ?_)
  refine lv_iconst (v := nI 0) hE.x hE.b dX4_forbidsOneOf_6 rfl ?_
  refine lv_istore (lv' := [(6, .int (nI 0)), (5, .int (nI (rdB (fun c => alw (n (46 + 5 * c + 0))) C))), (0, .ref b), (1, .int (nI ac)), (2, .int (nI t)), (3, .int dd), (4, .int (nI S))]) hE.x hE.b dX4_forbidsOneOf_7 hl (by decide) rfl (fun ls hl => ?_)
  have k9 : ∀ (fu : Nat) (act : Nat) (H : Heap) (locs : List Loc) (ls : Array Slot), 6 - act < fu → (act ≤ 6) → (false = true ↔ fbP (acAl n C dd S) ac t act) → zB g s (lW g b a (nI T) (nI C) (nI U) (nI V) rd ro lw pl pc gv aw nt ++ X) H locs → lv_has ls 8 [(6, .int (nI act)), (5, .int (nI (rdB (fun c => alw (n (46 + 5 * c + 0))) C))), (0, .ref b), (1, .int (nI ac)), (2, .int (nI t)), (3, .int dd), (4, .int (nI S))] → W p l e { frames := 3, cells := 0, slots := 0, locals := 68 } s m args below meth c H locs 0 0 (MQ below (zQi g (fun r ws => r = bI (fbB (acAl n C dd S) ac t) ∧ ws = lW g b a (nI T) (nI C) (nI U) (nI V) rd ro lw pl pc gv aw nt ++ X)) args s 0 0 (zA (gz g))) (F0 m 9 ls []) := by
    intro fu
    induction fu with
    | zero => intro act H locs ls hfu hact hf hB hl; exact absurd hfu (Nat.not_lt_zero _)
    | succ fu ih9 =>
      intro act H locs ls hfu hact hf hB hl
      refine lv_iload hE.x hE.b dX4_forbidsOneOf_9 (lv_at hl 0 rfl) ?_
      refine lv_bipush (v := (nI 6)) hE.x hE.b dX4_forbidsOneOf_11 rfl ?_
      refine z_ge (tgt := 65) (X := ((act : Nat) : Int)) (Y := (6 : Int)) hE dX4_forbidsOneOf_13 (by decide) (nI_toInt (n := act) (by omega)) rfl (fun c_3 => ?_) (fun c_3 => ?_)
      · refine lv_iconst (v := nI 0) hE.x hE.b dX4_forbidsOneOf_65 rfl ?_
        exact z_bret (b := false) (ws := lW g b a (nI T) (nI C) (nI U) (nI V) rd ro lw pl pc gv aw nt ++ X) hE hB hr (⟨congrArg bI (fbB_f (fun z => by rw [show (6 : Nat) = act by omega] at z; cases hf.mpr z)).symm, rfl⟩) dX4_forbidsOneOf_66
      · refine lv_iload_n hE.x hE.b dX4_forbidsOneOf_16 rfl (lv_at hl 3 rfl) ?_
        refine lv_iload hE.x hE.b dX4_forbidsOneOf_17 (lv_at hl 0 rfl) ?_
        refine lv_ishr hE.x hE.b dX4_forbidsOneOf_19 ?_
        refine z_top (y := (nI (ac / 2 ^ act))) (shr_nI (by omega) (by omega)) ?_
        refine lv_iconst (v := nI 1) hE.x hE.b dX4_forbidsOneOf_20 rfl ?_
        refine lv_iand hE.x hE.b dX4_forbidsOneOf_21 ?_
        refine z_top (y := (nI (ac / 2 ^ act % 2))) (and1_nI (by have := Nat.div_le_self ac (2 ^ act); omega)) ?_
        have hb2 : ac / 2 ^ act % 2 < 2 := Nat.mod_lt _ (by omega)
        refine z_eq0 (tgt := 59) (X := (((ac / 2 ^ act % 2) : Nat) : Int)) hE dX4_forbidsOneOf_22 (by decide) (nI_toInt (n := (ac / 2 ^ act % 2)) (by omega)) (fun c_4 => ?_) (fun c_4 => ?_)
        · refine lv_iinc (v := (nI (act + 1))) (lv' := [(6, .int (nI (act + 1))), (5, .int (nI (rdB (fun c => alw (n (46 + 5 * c + 0))) C))), (0, .ref b), (1, .int (nI ac)), (2, .int (nI t)), (3, .int dd), (4, .int (nI S))]) hE.x hE.b dX4_forbidsOneOf_59 hl (k := 0) rfl (nI_add _ _) (by decide) rfl (fun ls hl => ?_)
          refine lv_goto (tgt := 9) hE.x hE.b dX4_forbidsOneOf_62 (by decide) ?_
          exact ih9 (act + 1) _ _ _ (by omega) (by omega) (fb_st hf rfl ⟨fun h => (by cases h), fun h => absurd h.1 (by omega)⟩) hB hl
        · refine lv_aload_n hE.x hE.b dX4_forbidsOneOf_25 rfl (lv_at hl 2 rfl) ?_
          refine lv_iload_n hE.x hE.b dX4_forbidsOneOf_26 rfl (lv_at hl 4 rfl) ?_
          refine lv_iload hE.x hE.b dX4_forbidsOneOf_27 (lv_at hl 0 rfl) ?_
          refine lv_iload_n hE.x hE.b dX4_forbidsOneOf_29 rfl (lv_at hl 5 rfl) ?_
          refine lv_iconst (v := nI 0) hE.x hE.b dX4_forbidsOneOf_30 rfl ?_
          refine z_qi hB (z_cV hE hB (c_X4_speaking l g b a T C U V rd ro lw pl pc gv aw nt (nI t) (nI act) dd 0 n B X hn hrel hBX (by omega)) q3_13 kX4_speaking ⟨rfl, rfl⟩ ⟨Nat.le_of_ble_eq_true rfl, Nat.le_of_ble_eq_true rfl⟩ 0 rfl rfl rfl hl.1 rfl (Nat.le_of_ble_eq_true rfl) dX4_forbidsOneOf_31 ⟨Nat.le_of_ble_eq_true rfl, Nat.le_of_ble_eq_true rfl⟩) (fun r_5 w_6 H locs hw hB => ?_)
          obtain ⟨hr9, hw9⟩ := hw
          have hr9 := hr9.symm
          subst hr9
          have hw9 := hw9.symm
          subst hw9
          refine lv_iload hE.x hE.b dX4_forbidsOneOf_34 (lv_at hl 6 rfl) ?_
          refine lv_iconst (v := (-1)) hE.x hE.b dX4_forbidsOneOf_36 rfl ?_
          refine lv_ixor hE.x hE.b dX4_forbidsOneOf_37 ?_
          refine lv_iand hE.x hE.b dX4_forbidsOneOf_38 ?_
          refine z_top (y := (nI (rdB (hP n S (nI t) (nI act) dd (nI 0) (nI 0)) C))) (by exact rdB_str) ?_
          refine lv_istore (lv' := [(7, .int (nI (rdB (hP n S (nI t) (nI act) dd (nI 0) (nI 0)) C))), (6, .int (nI act)), (5, .int (nI (rdB (fun c => alw (n (46 + 5 * c + 0))) C))), (0, .ref b), (1, .int (nI ac)), (2, .int (nI t)), (3, .int dd), (4, .int (nI S))]) hE.x hE.b dX4_forbidsOneOf_39 hl (by decide) rfl (fun ls hl => ?_)
          refine lv_aload_n hE.x hE.b dX4_forbidsOneOf_41 rfl (lv_at hl 3 rfl) ?_
          refine z_get (v := .ref (a 0)) hE hB inX4 0 rfl rfl 4 (by decide) q1_43 (fun _ h9 => h9) rfl dX4_forbidsOneOf_42 ?_
          refine lv_iload_n hE.x hE.b dX4_forbidsOneOf_45 rfl (lv_at hl 5 rfl) ?_
          refine z_iald (k := t) (f := rd) hE hB 1 rfl (by omega) (by decide) dX4_forbidsOneOf_46 ?_
          refine z_top (y := (n (4 + t))) (hrel.1 t ht) ?_
          refine lv_iload hE.x hE.b dX4_forbidsOneOf_47 (lv_at hl 0 rfl) ?_
          refine lv_iload hE.x hE.b dX4_forbidsOneOf_49 (lv_at hl 2 rfl) ?_
          refine z_qi hB (z_cSN hE hB (c_X8_forbidden l g (n (4 + t)) (rdB (hP n S (nI t) (nI act) dd (nI 0) (nI 0)) C) (rdB (fun c => alw (n (46 + 5 * c + 0))) C) (hP n S (nI t) (nI act) dd (nI 0) (nI 0)) (fun c => alw (n (46 + 5 * c + 0))) C (lW g b a (nI T) (nI C) (nI U) (nI V) rd ro lw pl pc gv aw nt ++ X) rfl rfl (by omega)) hE.2.1.2.1.2.2.2.2.1 kX8_forbidden ⟨rfl, rfl⟩ ⟨Nat.le_of_ble_eq_true rfl, Nat.le_of_ble_eq_true rfl⟩ rfl hl.1 rfl (Nat.le_of_ble_eq_true rfl) dX4_forbidsOneOf_51 ⟨Nat.le_of_ble_eq_true rfl, Nat.le_of_ble_eq_true rfl⟩) (fun r_7 w_8 H locs hw hB => ?_)
          obtain ⟨hr9, hw9⟩ := hw
          have hr9 := hr9.symm
          subst hr9
          have hw9 := hw9.symm
          subst hw9
          refine z_top (y := (bI (!acAl n C dd S act t))) (congrArg bI frb_A) ?_
          refine z_bf (b := (!acAl n C dd S act t)) (tgt := 59) hE dX4_forbidsOneOf_54 (by decide) (fun c_9 => ?_) (fun c_9 => ?_)
          · refine lv_iinc (v := (nI (act + 1))) (lv' := [(6, .int (nI (act + 1))), (7, .int (nI (rdB (hP n S (nI t) (nI act) dd (nI 0) (nI 0)) C))), (5, .int (nI (rdB (fun c => alw (n (46 + 5 * c + 0))) C))), (0, .ref b), (1, .int (nI ac)), (2, .int (nI t)), (3, .int dd), (4, .int (nI S))]) hE.x hE.b dX4_forbidsOneOf_59 hl (k := 1) rfl (nI_add _ _) (by decide) rfl (fun ls hl => ?_)
            refine lv_goto (tgt := 9) hE.x hE.b dX4_forbidsOneOf_62 (by decide) ?_
            exact ih9 (act + 1) _ _ _ (by omega) (by omega) (fb_st hf rfl ⟨fun h => (by cases h), fun h => (by rw [h.2] at c_9; cases c_9)⟩) hB (lv_sub hl [0, 2, 3, 4, 5, 6, 7] rfl)
          · refine lv_iconst (v := nI 1) hE.x hE.b dX4_forbidsOneOf_57 rfl ?_
            exact z_bret (b := true) (ws := lW g b a (nI T) (nI C) (nI U) (nI V) rd ro lw pl pc gv aw nt ++ X) hE hB hr (⟨congrArg bI (fbB_t ⟨act, by omega, by omega, by simpa using c_9⟩).symm, rfl⟩) dX4_forbidsOneOf_58
  exact k9 (6 - 0 + 1) 0 _ _ _ (Nat.lt_succ_self _) (by omega) fbP_0 hB hl

set_option maxHeartbeats 4000000 in
set_option maxRecDepth 100000 in
theorem c_X4_townsPressing (l : Launch) (g : zG) (b : Nat) (a : Nat → Nat) (T : Nat) (C : Nat) (U : Nat) (V : Nat) (rd : Nat → Int32) (ro : Nat → Int32) (lw : Nat → Option Nat) (pl : Nat → Option Nat) (pc : Nat → Int32) (gv : Nat → Int32) (aw : Nat → Int32) (nt : Nat → Int32) (ac : Nat) (dd : Int32) (S : Nat) (n : Nat → Int32) (B : va_W) (X : va_W) (hn : nOK n T C V U) (hrel : relL n T C U V rd ro lw pl pc gv B) (hBX : ∀ x ∈ B, x ∈ X) (hac : ac < 64) : Met l yX4_townsPressing (Cond.code yX4_townsPressing cX4_townsPressing 6 (some .int) :: TBL) { frames := 4, cells := 0, slots := 0, locals := 95 } (zPc [.ref b, .int (nI ac), .int dd, .int (nI S)] g (lW g b a (nI T) (nI C) (nI U) (nI V) rd ro lw pl pc gv aw nt ++ X)) (zQi g (fun r ws => r = nI (cn (fun t => fbB (acAl n C dd S) ac t) T) ∧ ws = lW g b a (nI T) (nI C) (nI U) (nI V) rd ro lw pl pc gv aw nt ++ X)) 0 0 (zA (gz g)) := by
  refine z_start (by decide +kernel) rfl (Nat.le_of_ble_eq_true rfl) ?_
  intro p e s m args below meth c ls hE hr hnm hB hl
  have hl : lv_has ls 6 [(0, .ref b), (1, .int (nI ac)), (2, .int dd), (3, .int (nI S))] := hl
  revert hB
  generalize s.heap = H
  generalize ([] : List Loc) = locs
  intro hB
  have hT6 := hn.T6
  have hC8 := hn.C8
  have hV8 := hn.V8
  have hU8 := hn.U8
  refine lv_iconst (v := nI 0) hE.x hE.b dX4_townsPressing_0 rfl ?_
  refine lv_istore (lv' := [(4, .int (nI 0)), (0, .ref b), (1, .int (nI ac)), (2, .int dd), (3, .int (nI S))]) hE.x hE.b dX4_townsPressing_1 hl (by decide) rfl (fun ls hl => ?_)
  refine lv_iconst (v := nI 0) hE.x hE.b dX4_townsPressing_3 rfl ?_
  refine lv_istore (lv' := [(5, .int (nI 0)), (4, .int (nI 0)), (0, .ref b), (1, .int (nI ac)), (2, .int dd), (3, .int (nI S))]) hE.x hE.b dX4_townsPressing_4 hl (by decide) rfl (fun ls hl => ?_)
  have k6 : ∀ (fu : Nat) (m9 : Nat) (t : Nat) (H : Heap) (locs : List Loc) (ls : Array Slot), T - t < fu → (t ≤ T) → (m9 = cn (fun t => fbB (acAl n C dd S) ac t) t) → zB g s (lW g b a (nI T) (nI C) (nI U) (nI V) rd ro lw pl pc gv aw nt ++ X) H locs → lv_has ls 6 [(5, .int (nI t)), (4, .int (nI m9)), (0, .ref b), (1, .int (nI ac)), (2, .int dd), (3, .int (nI S))] → W p l e { frames := 4, cells := 0, slots := 0, locals := 95 } s m args below meth c H locs 0 0 (MQ below (zQi g (fun r ws => r = nI (cn (fun t => fbB (acAl n C dd S) ac t) T) ∧ ws = lW g b a (nI T) (nI C) (nI U) (nI V) rd ro lw pl pc gv aw nt ++ X)) args s 0 0 (zA (gz g))) (F0 m 6 ls []) := by
    intro fu
    induction fu with
    | zero => intro m9 t H locs ls hfu ht hm hB hl; exact absurd hfu (Nat.not_lt_zero _)
    | succ fu ih6 =>
      intro m9 t H locs ls hfu ht hm hB hl
      refine lv_iload hE.x hE.b dX4_townsPressing_6 (lv_at hl 0 rfl) ?_
      refine lv_aload_n hE.x hE.b dX4_townsPressing_8 rfl (lv_at hl 2 rfl) ?_
      refine z_get (v := .int (nI T)) hE hB inX4 0 rfl rfl 0 (by decide) q1_33 (fun _ h9 => h9) rfl dX4_townsPressing_9 ?_
      refine z_ge (tgt := 36) (X := ((t : Nat) : Int)) (Y := ((T : Nat) : Int)) hE dX4_townsPressing_12 (by decide) (nI_toInt (n := t) (by omega)) (nI_toInt (n := T) (by omega)) (fun c_1 => ?_) (fun c_1 => ?_)
      · refine lv_iload hE.x hE.b dX4_townsPressing_36 (lv_at hl 1 rfl) ?_
        exact z_iret (v := (nI m9)) (ws := lW g b a (nI T) (nI C) (nI U) (nI V) rd ro lw pl pc gv aw nt ++ X) hE hB hr (⟨by rw [hm, show t = T by omega], rfl⟩) dX4_townsPressing_38
      · refine lv_aload_n hE.x hE.b dX4_townsPressing_15 rfl (lv_at hl 2 rfl) ?_
        refine lv_iload_n hE.x hE.b dX4_townsPressing_16 rfl (lv_at hl 3 rfl) ?_
        refine lv_iload hE.x hE.b dX4_townsPressing_17 (lv_at hl 0 rfl) ?_
        refine lv_iload_n hE.x hE.b dX4_townsPressing_19 rfl (lv_at hl 4 rfl) ?_
        refine lv_iload_n hE.x hE.b dX4_townsPressing_20 rfl (lv_at hl 5 rfl) ?_
        refine z_qi hB (z_cV hE hB (c_X4_forbidsOneOf l g b a T C U V rd ro lw pl pc gv aw nt ac t dd S n B X hn hrel hBX (by omega) (by omega)) q3_123 kX4_forbidsOneOf ⟨rfl, rfl⟩ ⟨Nat.le_of_ble_eq_true rfl, Nat.le_of_ble_eq_true rfl⟩ 0 rfl rfl rfl hl.1 rfl (Nat.le_of_ble_eq_true rfl) dX4_townsPressing_21 ⟨Nat.le_of_ble_eq_true rfl, Nat.le_of_ble_eq_true rfl⟩) (fun r_2 w_3 H locs hw hB => ?_)
        obtain ⟨hr9, hw9⟩ := hw
        have hr9 := hr9.symm
        subst hr9
        have hw9 := hw9.symm
        subst hw9
        refine z_bf (b := (fbB (acAl n C dd S) ac t)) (tgt := 30) hE dX4_townsPressing_24 (by decide) (fun c_4 => ?_) (fun c_4 => ?_)
        · refine lv_iinc (v := (nI (t + 1))) (lv' := [(5, .int (nI (t + 1))), (4, .int (nI m9)), (0, .ref b), (1, .int (nI ac)), (2, .int dd), (3, .int (nI S))]) hE.x hE.b dX4_townsPressing_30 hl (k := 0) rfl (nI_add _ _) (by decide) rfl (fun ls hl => ?_)
          refine lv_goto (tgt := 6) hE.x hE.b dX4_townsPressing_33 (by decide) ?_
          exact ih6 m9 (t + 1) _ _ _ (by omega) (by omega) (by rw [cn_f (P := (fun t => fbB (acAl n C dd S) ac t)) c_4, hm]) hB hl
        · refine lv_iinc (v := (nI (m9 + 1))) (lv' := [(4, .int (nI (m9 + 1))), (5, .int (nI t)), (0, .ref b), (1, .int (nI ac)), (2, .int dd), (3, .int (nI S))]) hE.x hE.b dX4_townsPressing_27 hl (k := 1) rfl (nI_add _ _) (by decide) rfl (fun ls hl => ?_)
          refine lv_iinc (v := (nI (t + 1))) (lv' := [(5, .int (nI (t + 1))), (4, .int (nI (m9 + 1))), (0, .ref b), (1, .int (nI ac)), (2, .int dd), (3, .int (nI S))]) hE.x hE.b dX4_townsPressing_30 hl (k := 1) rfl (nI_add _ _) (by decide) rfl (fun ls hl => ?_)
          refine lv_goto (tgt := 6) hE.x hE.b dX4_townsPressing_33 (by decide) ?_
          exact ih6 (m9 + 1) (t + 1) _ _ _ (by omega) (by omega) (by rw [cn_t (P := (fun t => fbB (acAl n C dd S) ac t)) c_4, hm]) hB hl
  exact k6 (T - 0 + 1) 0 0 _ _ _ (Nat.lt_succ_self _) (by omega) rfl hB hl

set_option maxHeartbeats 4000000 in
set_option maxRecDepth 100000 in
theorem c_X4_daysPressed (l : Launch) (g : zG) (b : Nat) (a : Nat → Nat) (T : Nat) (C : Nat) (U : Nat) (V : Nat) (rd : Nat → Int32) (ro : Nat → Int32) (lw : Nat → Option Nat) (pl : Nat → Option Nat) (pc : Nat → Int32) (gv : Nat → Int32) (aw : Nat → Int32) (nt : Nat → Int32) (t : Nat) (ac : Nat) (n : Nat → Int32) (B : va_W) (X : va_W) (hn : nOK n T C V U) (hrel : relL n T C U V rd ro lw pl pc gv B) (hBX : ∀ x ∈ B, x ∈ X) (hac : ac < 64) (ht : t < T) : Met l yX4_daysPressed (Cond.code yX4_daysPressed cX4_daysPressed 5 (some .int) :: TBL) { frames := 4, cells := 0, slots := 0, locals := 95 } (zPc [.ref b, .int (nI t), .int (nI ac)] g (lW g b a (nI T) (nI C) (nI U) (nI V) rd ro lw pl pc gv aw nt ++ X)) (zQi g (fun r ws => r = nI (prsC n C ac t) ∧ ws = lW g b a (nI T) (nI C) (nI U) (nI V) rd ro lw pl pc gv aw nt ++ X)) 0 0 (zA (gz g)) := by
  refine z_start (by decide +kernel) rfl (Nat.le_of_ble_eq_true rfl) ?_
  intro p e s m args below meth c ls hE hr hnm hB hl
  have hl : lv_has ls 5 [(0, .ref b), (1, .int (nI t)), (2, .int (nI ac))] := hl
  revert hB
  generalize s.heap = H
  generalize ([] : List Loc) = locs
  intro hB
  have hT6 := hn.T6
  have hC8 := hn.C8
  have hV8 := hn.V8
  have hU8 := hn.U8
  refine lv_iconst (v := nI 0) hE.x hE.b dX4_daysPressed_0 rfl ?_
  refine lv_istore_n (lv' := [(3, .int (nI 0)), (0, .ref b), (1, .int (nI t)), (2, .int (nI ac))]) hE.x hE.b dX4_daysPressed_1 rfl hl (by decide) rfl (fun ls hl => ?_)
  refine lv_iconst (v := nI 0) hE.x hE.b dX4_daysPressed_2 rfl ?_
  refine lv_istore (lv' := [(4, .int (nI 0)), (3, .int (nI 0)), (0, .ref b), (1, .int (nI t)), (2, .int (nI ac))]) hE.x hE.b dX4_daysPressed_3 hl (by decide) rfl (fun ls hl => ?_)
  have k5 : ∀ (fu : Nat) (m9 : Nat) (d : Nat) (H : Heap) (locs : List Loc) (ls : Array Slot), 60 - d < fu → (d ≤ 60) → (m9 = cn (fun d => fbB (acAl n C (nI d) 0) ac t) d) → zB g s (lW g b a (nI T) (nI C) (nI U) (nI V) rd ro lw pl pc gv aw nt ++ X) H locs → lv_has ls 5 [(4, .int (nI d)), (3, .int (nI m9)), (0, .ref b), (1, .int (nI t)), (2, .int (nI ac))] → W p l e { frames := 4, cells := 0, slots := 0, locals := 95 } s m args below meth c H locs 0 0 (MQ below (zQi g (fun r ws => r = nI (prsC n C ac t) ∧ ws = lW g b a (nI T) (nI C) (nI U) (nI V) rd ro lw pl pc gv aw nt ++ X)) args s 0 0 (zA (gz g))) (F0 m 5 ls []) := by
    intro fu
    induction fu with
    | zero => intro m9 d H locs ls hfu hd hm hB hl; exact absurd hfu (Nat.not_lt_zero _)
    | succ fu ih5 =>
      intro m9 d H locs ls hfu hd hm hB hl
      refine lv_iload hE.x hE.b dX4_daysPressed_5 (lv_at hl 0 rfl) ?_
      refine lv_bipush (v := (nI 60)) hE.x hE.b dX4_daysPressed_7 rfl ?_
      refine z_ge (tgt := 33) (X := ((d : Nat) : Int)) (Y := (60 : Int)) hE dX4_daysPressed_9 (by decide) (nI_toInt (n := d) (by omega)) rfl (fun c_1 => ?_) (fun c_1 => ?_)
      · refine lv_iload_n hE.x hE.b dX4_daysPressed_33 rfl (lv_at hl 1 rfl) ?_
        exact z_iret (v := (nI m9)) (ws := lW g b a (nI T) (nI C) (nI U) (nI V) rd ro lw pl pc gv aw nt ++ X) hE hB hr (⟨by rw [hm, show d = 60 by omega]; rfl, rfl⟩) dX4_daysPressed_34
      · refine lv_aload_n hE.x hE.b dX4_daysPressed_12 rfl (lv_at hl 2 rfl) ?_
        refine lv_iload_n hE.x hE.b dX4_daysPressed_13 rfl (lv_at hl 4 rfl) ?_
        refine lv_iload_n hE.x hE.b dX4_daysPressed_14 rfl (lv_at hl 3 rfl) ?_
        refine lv_iload hE.x hE.b dX4_daysPressed_15 (lv_at hl 0 rfl) ?_
        refine lv_iconst (v := nI 0) hE.x hE.b dX4_daysPressed_17 rfl ?_
        refine z_qi hB (z_cV hE hB (c_X4_forbidsOneOf l g b a T C U V rd ro lw pl pc gv aw nt ac t (nI d) 0 n B X hn hrel hBX (by omega) (by omega)) q3_123 kX4_forbidsOneOf ⟨rfl, rfl⟩ ⟨Nat.le_of_ble_eq_true rfl, Nat.le_of_ble_eq_true rfl⟩ 0 rfl rfl rfl hl.1 rfl (Nat.le_of_ble_eq_true rfl) dX4_daysPressed_18 ⟨Nat.le_of_ble_eq_true rfl, Nat.le_of_ble_eq_true rfl⟩) (fun r_2 w_3 H locs hw hB => ?_)
        obtain ⟨hr9, hw9⟩ := hw
        have hr9 := hr9.symm
        subst hr9
        have hw9 := hw9.symm
        subst hw9
        refine z_bf (b := (fbB (acAl n C (nI d) 0) ac t)) (tgt := 27) hE dX4_daysPressed_21 (by decide) (fun c_4 => ?_) (fun c_4 => ?_)
        · refine lv_iinc (v := (nI (d + 1))) (lv' := [(4, .int (nI (d + 1))), (3, .int (nI m9)), (0, .ref b), (1, .int (nI t)), (2, .int (nI ac))]) hE.x hE.b dX4_daysPressed_27 hl (k := 0) rfl (nI_add _ _) (by decide) rfl (fun ls hl => ?_)
          refine lv_goto (tgt := 5) hE.x hE.b dX4_daysPressed_30 (by decide) ?_
          exact ih5 m9 (d + 1) _ _ _ (by omega) (by omega) (by rw [cn_f (P := (fun d => fbB (acAl n C (nI d) 0) ac t)) c_4, hm]) hB hl
        · refine lv_iinc (v := (nI (m9 + 1))) (lv' := [(3, .int (nI (m9 + 1))), (4, .int (nI d)), (0, .ref b), (1, .int (nI t)), (2, .int (nI ac))]) hE.x hE.b dX4_daysPressed_24 hl (k := 1) rfl (nI_add _ _) (by decide) rfl (fun ls hl => ?_)
          refine lv_iinc (v := (nI (d + 1))) (lv' := [(4, .int (nI (d + 1))), (3, .int (nI (m9 + 1))), (0, .ref b), (1, .int (nI t)), (2, .int (nI ac))]) hE.x hE.b dX4_daysPressed_27 hl (k := 1) rfl (nI_add _ _) (by decide) rfl (fun ls hl => ?_)
          refine lv_goto (tgt := 5) hE.x hE.b dX4_daysPressed_30 (by decide) ?_
          exact ih5 (m9 + 1) (d + 1) _ _ _ (by omega) (by omega) (by rw [cn_t (P := (fun d => fbB (acAl n C (nI d) 0) ac t)) c_4, hm]) hB hl
  exact k5 (60 - 0 + 1) 0 0 _ _ _ (Nat.lt_succ_self _) (by omega) rfl hB hl

set_option maxHeartbeats 4000000 in
set_option maxRecDepth 100000 in
theorem c_X4_noteSpeaking (l : Launch) (g : zG) (b : Nat) (a : Nat → Nat) (T : Nat) (C : Nat) (U : Nat) (V : Nat) (rd : Nat → Int32) (ro : Nat → Int32) (lw : Nat → Option Nat) (pl : Nat → Option Nat) (pc : Nat → Int32) (gv : Nat → Int32) (aw : Nat → Int32) (nt : Nat → Int32) (ac : Nat) (dd : Int32) (n : Nat → Int32) (B : va_W) (X : va_W) (hn : nOK n T C V U) (hrel : relL n T C U V rd ro lw pl pc gv B) (hBX : ∀ x ∈ B, x ∈ X) (hac : ac < 64) : Met l yX4_noteSpeaking (Cond.code yX4_noteSpeaking cX4_noteSpeaking 6 none :: TBL) { frames := 2, cells := 0, slots := 0, locals := 48 } (zPc [.ref b, .int (nI ac), .int dd] g (lW g b a (nI T) (nI C) (nI U) (nI V) rd ro lw pl pc gv aw nt ++ X)) (zQv g (fun ws => ∃ (f9 : Nat → Int32), ws = lW g b a (nI T) (nI C) (nI U) (nI V) rd ro lw pl pc gv aw f9 ++ X ∧ ntOK n C T ac dd f9 6)) 0 0 (zA (gz g)) := by
  refine z_start (by decide +kernel) rfl (Nat.le_of_ble_eq_true rfl) ?_
  intro p e s m args below meth c ls hE hr hnm hB hl
  have hl : lv_has ls 6 [(0, .ref b), (1, .int (nI ac)), (2, .int dd)] := hl
  revert hB
  generalize s.heap = H
  generalize ([] : List Loc) = locs
  intro hB
  have hT6 := hn.T6
  have hC8 := hn.C8
  have hV8 := hn.V8
  have hU8 := hn.U8
  refine lv_iconst (v := nI 0) hE.x hE.b dX4_noteSpeaking_0 rfl ?_
  refine lv_istore_n (lv' := [(3, .int (nI 0)), (0, .ref b), (1, .int (nI ac)), (2, .int dd)]) hE.x hE.b dX4_noteSpeaking_1 rfl hl (by decide) rfl (fun ls hl => ?_)
  have k2 : ∀ (fu : Nat) (act : Nat) (f : Nat → Int32) (H : Heap) (locs : List Loc) (ls : Array Slot), 6 - act < fu → (act ≤ 6) → (ntOK n C T ac dd f act) → zB g s (lW g b a (nI T) (nI C) (nI U) (nI V) rd ro lw pl pc gv aw f ++ X) H locs → lv_has ls 6 [(3, .int (nI act)), (0, .ref b), (1, .int (nI ac)), (2, .int dd)] → W p l e { frames := 2, cells := 0, slots := 0, locals := 48 } s m args below meth c H locs 0 0 (MQ below (zQv g (fun ws => ∃ (f9 : Nat → Int32), ws = lW g b a (nI T) (nI C) (nI U) (nI V) rd ro lw pl pc gv aw f9 ++ X ∧ ntOK n C T ac dd f9 6)) args s 0 0 (zA (gz g))) (F0 m 2 ls []) := by
    intro fu
    induction fu with
    | zero => intro act f H locs ls hfu hact hi hB hl; exact absurd hfu (Nat.not_lt_zero _)
    | succ fu ih2 =>
      intro act f H locs ls hfu hact hi hB hl
      refine lv_iload_n hE.x hE.b dX4_noteSpeaking_2 rfl (lv_at hl 0 rfl) ?_
      refine lv_bipush (v := (nI 6)) hE.x hE.b dX4_noteSpeaking_3 rfl ?_
      refine z_ge (tgt := 77) (X := ((act : Nat) : Int)) (Y := (6 : Int)) hE dX4_noteSpeaking_5 (by decide) (nI_toInt (n := act) (by omega)) rfl (fun c_1 => ?_) (fun c_1 => ?_)
      · exact z_vret (ws := lW g b a (nI T) (nI C) (nI U) (nI V) rd ro lw pl pc gv aw f ++ X) hE hB hr (⟨f, rfl, by rw [show (6 : Nat) = act by omega]; exact hi⟩) dX4_noteSpeaking_77
      · refine lv_iconst (v := nI 0) hE.x hE.b dX4_noteSpeaking_8 rfl ?_
        refine lv_istore (lv' := [(4, .int (nI 0)), (3, .int (nI act)), (0, .ref b), (1, .int (nI ac)), (2, .int dd)]) hE.x hE.b dX4_noteSpeaking_9 hl (by decide) rfl (fun ls hl => ?_)
        have k11 : ∀ (fu : Nat) (t : Nat) (f : Nat → Int32) (H : Heap) (locs : List Loc) (ls : Array Slot), T - t < fu → (t ≤ T) → (ntOK n C T ac dd f act) → (ntI n C ac dd f act t) → zB g s (lW g b a (nI T) (nI C) (nI U) (nI V) rd ro lw pl pc gv aw f ++ X) H locs → lv_has ls 6 [(4, .int (nI t)), (3, .int (nI act)), (0, .ref b), (1, .int (nI ac)), (2, .int dd)] → W p l e { frames := 2, cells := 0, slots := 0, locals := 48 } s m args below meth c H locs 0 0 (MQ below (zQv g (fun ws => ∃ (f9 : Nat → Int32), ws = lW g b a (nI T) (nI C) (nI U) (nI V) rd ro lw pl pc gv aw f9 ++ X ∧ ntOK n C T ac dd f9 6)) args s 0 0 (zA (gz g))) (F0 m 11 ls []) := by
          intro fu
          induction fu with
          | zero => intro t f H locs ls hfu ht hi hj hB hl; exact absurd hfu (Nat.not_lt_zero _)
          | succ fu ih11 =>
            intro t f H locs ls hfu ht hi hj hB hl
            refine lv_iload hE.x hE.b dX4_noteSpeaking_11 (lv_at hl 0 rfl) ?_
            refine lv_aload_n hE.x hE.b dX4_noteSpeaking_13 rfl (lv_at hl 2 rfl) ?_
            refine z_get (v := .int (nI T)) hE hB inX4 0 rfl rfl 0 (by decide) q1_33 (fun _ h9 => h9) rfl dX4_noteSpeaking_14 ?_
            refine z_ge (tgt := 71) (X := ((t : Nat) : Int)) (Y := ((T : Nat) : Int)) hE dX4_noteSpeaking_17 (by decide) (nI_toInt (n := t) (by omega)) (nI_toInt (n := T) (by omega)) (fun c_2 => ?_) (fun c_2 => ?_)
            · refine lv_iinc (v := (nI (act + 1))) (lv' := [(3, .int (nI (act + 1))), (4, .int (nI t)), (0, .ref b), (1, .int (nI ac)), (2, .int dd)]) hE.x hE.b dX4_noteSpeaking_71 hl (k := 1) rfl (nI_add _ _) (by decide) rfl (fun ls hl => ?_)
              refine lv_goto (tgt := 2) hE.x hE.b dX4_noteSpeaking_74 (by decide) ?_
              exact ih2 (act + 1) f _ _ _ (by omega) (by omega) (ntOK_s hi hj (by omega)) hB (lv_sub hl [0, 2, 3, 4] rfl)
            · refine lv_iload_n hE.x hE.b dX4_noteSpeaking_20 rfl (lv_at hl 3 rfl) ?_
              refine lv_iload_n hE.x hE.b dX4_noteSpeaking_21 rfl (lv_at hl 1 rfl) ?_
              refine lv_ishr hE.x hE.b dX4_noteSpeaking_22 ?_
              refine z_top (y := (nI (ac / 2 ^ act))) (shr_nI (by omega) (by omega)) ?_
              refine lv_iconst (v := nI 1) hE.x hE.b dX4_noteSpeaking_23 rfl ?_
              refine lv_iand hE.x hE.b dX4_noteSpeaking_24 ?_
              refine z_top (y := (nI (ac / 2 ^ act % 2))) (and1_nI (by have := Nat.div_le_self ac (2 ^ act); omega)) ?_
              have hb2 : ac / 2 ^ act % 2 < 2 := Nat.mod_lt _ (by omega)
              refine z_eq0 (tgt := 32) (X := (((ac / 2 ^ act % 2) : Nat) : Int)) hE dX4_noteSpeaking_25 (by decide) (nI_toInt (n := (ac / 2 ^ act % 2)) (by omega)) (fun c_3 => ?_) (fun c_3 => ?_)
              · refine lv_iconst (v := nI 0) hE.x hE.b dX4_noteSpeaking_32 rfl ?_
                refine lv_istore (lv' := [(5, .int (nI 0)), (4, .int (nI t)), (3, .int (nI act)), (0, .ref b), (1, .int (nI ac)), (2, .int dd)]) hE.x hE.b dX4_noteSpeaking_33 hl (by decide) rfl (fun ls hl => ?_)
                refine lv_aload_n hE.x hE.b dX4_noteSpeaking_35 rfl (lv_at hl 3 rfl) ?_
                refine z_get (v := .ref (a 7)) hE hB inX4 0 rfl rfl 11 (by decide) q1_51 (fun _ h9 => h9) rfl dX4_noteSpeaking_36 ?_
                refine lv_bipush (v := (nI 6)) hE.x hE.b dX4_noteSpeaking_39 rfl ?_
                refine lv_iload_n hE.x hE.b dX4_noteSpeaking_41 rfl (lv_at hl 2 rfl) ?_
                refine z_imulN hE dX4_noteSpeaking_42 ?_
                refine lv_iload hE.x hE.b dX4_noteSpeaking_43 (lv_at hl 1 rfl) ?_
                refine z_iaddN hE dX4_noteSpeaking_45 ?_
                refine lv_iload hE.x hE.b dX4_noteSpeaking_46 (lv_at hl 0 rfl) ?_
                refine z_eq0 (tgt := 63) (X := (0 : Int)) hE dX4_noteSpeaking_48 (by decide) rfl (fun c_4 => ?_) (fun c_4 => ?_)
                · refine lv_iconst (v := nI 0) hE.x hE.b dX4_noteSpeaking_63 rfl ?_
                  refine z_iast (k := ((6 * act) + t)) (f := f) (x := (nI 0)) (ws' := lW g b a (nI T) (nI C) (nI U) (nI V) rd ro lw pl pc gv aw (upd f ((6 * act) + t) (nI 0)) ++ X) hE hB 8 rfl (by omega) (by decide) rfl dX4_noteSpeaking_64 (fun H locs hB => ?_)
                  refine lv_iinc (v := (nI (t + 1))) (lv' := [(4, .int (nI (t + 1))), (5, .int (nI 0)), (3, .int (nI act)), (0, .ref b), (1, .int (nI ac)), (2, .int dd)]) hE.x hE.b dX4_noteSpeaking_65 hl (k := 1) rfl (nI_add _ _) (by decide) rfl (fun ls hl => ?_)
                  refine lv_goto (tgt := 11) hE.x hE.b dX4_noteSpeaking_68 (by decide) ?_
                  exact ih11 (t + 1) (upd f ((6 * act) + t) (nI 0)) _ _ _ (by omega) (by omega) (ntOK_up hi hT6 (by omega)) (ntI_up hj (fun hb => absurd hb (by omega))) hB (lv_sub hl [0, 2, 3, 4, 5] rfl)
                · · exact absurd rfl c_4
              · refine lv_iconst (v := nI 1) hE.x hE.b dX4_noteSpeaking_28 rfl ?_
                refine lv_goto (tgt := 33) hE.x hE.b dX4_noteSpeaking_29 (by decide) ?_
                refine lv_istore (lv' := [(5, .int (nI 1)), (4, .int (nI t)), (3, .int (nI act)), (0, .ref b), (1, .int (nI ac)), (2, .int dd)]) hE.x hE.b dX4_noteSpeaking_33 hl (by decide) rfl (fun ls hl => ?_)
                refine lv_aload_n hE.x hE.b dX4_noteSpeaking_35 rfl (lv_at hl 3 rfl) ?_
                refine z_get (v := .ref (a 7)) hE hB inX4 0 rfl rfl 11 (by decide) q1_51 (fun _ h9 => h9) rfl dX4_noteSpeaking_36 ?_
                refine lv_bipush (v := (nI 6)) hE.x hE.b dX4_noteSpeaking_39 rfl ?_
                refine lv_iload_n hE.x hE.b dX4_noteSpeaking_41 rfl (lv_at hl 2 rfl) ?_
                refine z_imulN hE dX4_noteSpeaking_42 ?_
                refine lv_iload hE.x hE.b dX4_noteSpeaking_43 (lv_at hl 1 rfl) ?_
                refine z_iaddN hE dX4_noteSpeaking_45 ?_
                refine lv_iload hE.x hE.b dX4_noteSpeaking_46 (lv_at hl 0 rfl) ?_
                refine z_eq0 (tgt := 63) (X := (1 : Int)) hE dX4_noteSpeaking_48 (by decide) rfl (fun c_5 => ?_) (fun c_5 => ?_)
                · · exact absurd c_5 (by decide)
                · refine lv_aload_n hE.x hE.b dX4_noteSpeaking_51 rfl (lv_at hl 3 rfl) ?_
                  refine lv_iload hE.x hE.b dX4_noteSpeaking_52 (lv_at hl 1 rfl) ?_
                  refine lv_iload_n hE.x hE.b dX4_noteSpeaking_54 rfl (lv_at hl 2 rfl) ?_
                  refine lv_iload_n hE.x hE.b dX4_noteSpeaking_55 rfl (lv_at hl 5 rfl) ?_
                  refine lv_iconst (v := nI 0) hE.x hE.b dX4_noteSpeaking_56 rfl ?_
                  refine z_qi hB (z_cV hE hB (c_X4_speaking l g b a T C U V rd ro lw pl pc gv aw f (nI t) (nI act) dd 0 n B X hn hrel hBX (by omega)) q3_13 kX4_speaking ⟨rfl, rfl⟩ ⟨Nat.le_of_ble_eq_true rfl, Nat.le_of_ble_eq_true rfl⟩ 0 rfl rfl rfl hl.1 rfl (Nat.le_of_ble_eq_true rfl) dX4_noteSpeaking_57 ⟨Nat.le_of_ble_eq_true rfl, Nat.le_of_ble_eq_true rfl⟩) (fun r_6 w_7 H locs hw hB => ?_)
                  obtain ⟨hr9, hw9⟩ := hw
                  have hr9 := hr9.symm
                  subst hr9
                  have hw9 := hw9.symm
                  subst hw9
                  refine lv_goto (tgt := 64) hE.x hE.b dX4_noteSpeaking_60 (by decide) ?_
                  refine z_iast (k := ((6 * act) + t)) (f := f) (x := (nI (rdB (hP n 0 (nI t) (nI act) dd (nI (0 / 2)) (nI (0 % 2))) C))) (ws' := lW g b a (nI T) (nI C) (nI U) (nI V) rd ro lw pl pc gv aw (upd f ((6 * act) + t) (nI (rdB (hP n 0 (nI t) (nI act) dd (nI (0 / 2)) (nI (0 % 2))) C))) ++ X) hE hB 8 rfl (by omega) (by decide) rfl dX4_noteSpeaking_64 (fun H locs hB => ?_)
                  refine lv_iinc (v := (nI (t + 1))) (lv' := [(4, .int (nI (t + 1))), (5, .int (nI 1)), (3, .int (nI act)), (0, .ref b), (1, .int (nI ac)), (2, .int dd)]) hE.x hE.b dX4_noteSpeaking_65 hl (k := 1) rfl (nI_add _ _) (by decide) rfl (fun ls hl => ?_)
                  refine lv_goto (tgt := 11) hE.x hE.b dX4_noteSpeaking_68 (by decide) ?_
                  exact ih11 (t + 1) (upd f ((6 * act) + t) (nI (rdB (hP n 0 (nI t) (nI act) dd (nI (0 / 2)) (nI (0 % 2))) C))) _ _ _ (by omega) (by omega) (ntOK_up hi hT6 (by omega)) (ntI_up hj (fun _ => rfl)) hB (lv_sub hl [0, 2, 3, 4, 5] rfl)
        exact k11 (T - 0 + 1) 0 f _ _ _ (Nat.lt_succ_self _) (by omega) hi (fun _ t h => absurd h (Nat.not_lt_zero t)) hB hl
  exact k2 (6 - 0 + 1) 0 nt _ _ _ (Nat.lt_succ_self _) (by omega) (fun a ha => absurd ha (Nat.not_lt_zero a)) hB hl

set_option maxHeartbeats 4000000 in
set_option maxRecDepth 100000 in
theorem c_X4_agreesIn (l : Launch) (g : zG) (b : Nat) (a : Nat → Nat) (T : Nat) (C : Nat) (U : Nat) (V : Nat) (rd : Nat → Int32) (ro : Nat → Int32) (lw : Nat → Option Nat) (pl : Nat → Option Nat) (pc : Nat → Int32) (gv : Nat → Int32) (aw : Nat → Int32) (nt : Nat → Int32) (act : Nat) (S : Nat) (dd : Int32) (n : Nat → Int32) (B : va_W) (X : va_W) (hn : nOK n T C V U) (hrel : relL n T C U V rd ro lw pl pc gv B) (hBX : ∀ x ∈ B, x ∈ X) (hact : act < 6) (hnt : (∀ t, t < T → nt (6 * act + t) = nI (rdB (hP n 0 (nI t) (nI act) dd (nI 0) (nI 0)) C))) : Met l yX4_agreesIn (Cond.code yX4_agreesIn cX4_agreesIn 8 (some .boolean) :: TBL) { frames := 3, cells := 0, slots := 0, locals := 68 } (zPc [.ref b, .int (nI act), .int (nI S), .int (nI (rdB (fun c => alw (n (46 + 5 * c + 0))) C))] g (lW g b a (nI T) (nI C) (nI U) (nI V) rd ro lw pl pc gv aw nt ++ X)) (zQi g (fun r ws => ∃ (bb : Bool), r = bI bb ∧ ws = lW g b a (nI T) (nI C) (nI U) (nI V) rd ro lw pl pc gv aw nt ++ X ∧ (bb = true ↔ agA (acAl n C dd S) T act))) 0 0 (zA (gz g)) := by
  refine z_start (by decide +kernel) rfl (Nat.le_of_ble_eq_true rfl) ?_
  intro p e s m args below meth c ls hE hr hnm hB hl
  have hl : lv_has ls 8 [(0, .ref b), (1, .int (nI act)), (2, .int (nI S)), (3, .int (nI (rdB (fun c => alw (n (46 + 5 * c + 0))) C)))] := hl
  revert hB
  generalize s.heap = H
  generalize ([] : List Loc) = locs
  intro hB
  have hT6 := hn.T6
  have hC8 := hn.C8
  have hV8 := hn.V8
  have hU8 := hn.U8
  refine lv_iconst (v := nI 0) hE.x hE.b dX4_agreesIn_0 rfl ?_
  refine lv_istore (lv' := [(4, .int (nI 0)), (0, .ref b), (1, .int (nI act)), (2, .int (nI S)), (3, .int (nI (rdB (fun c => alw (n (46 + 5 * c + 0))) C)))]) hE.x hE.b dX4_agreesIn_1 hl (by decide) rfl (fun ls hl => ?_)
  refine lv_iconst (v := nI 0) hE.x hE.b dX4_agreesIn_3 rfl ?_
  refine lv_istore (lv' := [(5, .int (nI 0)), (4, .int (nI 0)), (0, .ref b), (1, .int (nI act)), (2, .int (nI S)), (3, .int (nI (rdB (fun c => alw (n (46 + 5 * c + 0))) C)))]) hE.x hE.b dX4_agreesIn_4 hl (by decide) rfl (fun ls hl => ?_)
  have k6 : ∀ (fu : Nat) (fb : Bool) (t : Nat) (H : Heap) (locs : List Loc) (ls : Array Slot), T - t < fu → (t ≤ T) → (0 < t → fb = !(acAl n C dd S) act 0) → (∀ t', 1 ≤ t' → t' < t → (acAl n C dd S) act t' = (acAl n C dd S) act 0) → zB g s (lW g b a (nI T) (nI C) (nI U) (nI V) rd ro lw pl pc gv aw nt ++ X) H locs → lv_has ls 8 [(5, .int (nI t)), (4, .int (bI fb)), (0, .ref b), (1, .int (nI act)), (2, .int (nI S)), (3, .int (nI (rdB (fun c => alw (n (46 + 5 * c + 0))) C)))] → W p l e { frames := 3, cells := 0, slots := 0, locals := 68 } s m args below meth c H locs 0 0 (MQ below (zQi g (fun r ws => ∃ (bb : Bool), r = bI bb ∧ ws = lW g b a (nI T) (nI C) (nI U) (nI V) rd ro lw pl pc gv aw nt ++ X ∧ (bb = true ↔ agA (acAl n C dd S) T act))) args s 0 0 (zA (gz g))) (F0 m 6 ls []) := by
    intro fu
    induction fu with
    | zero => intro fb t H locs ls hfu ht hfb hal hB hl; exact absurd hfu (Nat.not_lt_zero _)
    | succ fu ih6 =>
      intro fb t H locs ls hfu ht hfb hal hB hl
      refine lv_iload hE.x hE.b dX4_agreesIn_6 (lv_at hl 0 rfl) ?_
      refine lv_aload_n hE.x hE.b dX4_agreesIn_8 rfl (lv_at hl 2 rfl) ?_
      refine z_get (v := .int (nI T)) hE hB inX4 0 rfl rfl 0 (by decide) q1_33 (fun _ h9 => h9) rfl dX4_agreesIn_9 ?_
      refine z_ge (tgt := 75) (X := ((t : Nat) : Int)) (Y := ((T : Nat) : Int)) hE dX4_agreesIn_12 (by decide) (nI_toInt (n := t) (by omega)) (nI_toInt (n := T) (by omega)) (fun c_1 => ?_) (fun c_1 => ?_)
      · refine lv_iconst (v := nI 1) hE.x hE.b dX4_agreesIn_75 rfl ?_
        exact z_bret (b := true) (ws := lW g b a (nI T) (nI C) (nI U) (nI V) rd ro lw pl pc gv aw nt ++ X) hE hB hr (⟨true, rfl, rfl, ⟨fun _ t' h1 h2 => hal t' h1 (by omega), fun _ => rfl⟩⟩) dX4_agreesIn_76
      · refine lv_aload_n hE.x hE.b dX4_agreesIn_15 rfl (lv_at hl 2 rfl) ?_
        refine z_get (v := .ref (a 7)) hE hB inX4 0 rfl rfl 11 (by decide) q1_51 (fun _ h9 => h9) rfl dX4_agreesIn_16 ?_
        refine lv_bipush (v := (nI 6)) hE.x hE.b dX4_agreesIn_19 rfl ?_
        refine lv_iload_n hE.x hE.b dX4_agreesIn_21 rfl (lv_at hl 3 rfl) ?_
        refine z_imulN hE dX4_agreesIn_22 ?_
        refine lv_iload hE.x hE.b dX4_agreesIn_23 (lv_at hl 0 rfl) ?_
        refine z_iaddN hE dX4_agreesIn_25 ?_
        refine z_iald (k := ((6 * act) + t)) (f := nt) hE hB 8 rfl (by omega) (by decide) dX4_agreesIn_26 ?_
        refine z_top (y := (nI (rdB (hP n 0 (nI t) (nI act) dd (nI 0) (nI 0)) C))) (hnt t (by omega)) ?_
        refine lv_iload_n hE.x hE.b dX4_agreesIn_27 rfl (lv_at hl 4 rfl) ?_
        refine lv_iconst (v := (-1)) hE.x hE.b dX4_agreesIn_28 rfl ?_
        refine lv_ixor hE.x hE.b dX4_agreesIn_29 ?_
        refine lv_iand hE.x hE.b dX4_agreesIn_30 ?_
        refine z_top (y := (nI (rdB (hP n S (nI t) (nI act) dd (nI 0) (nI 0)) C))) rdB_str ?_
        refine lv_istore (lv' := [(6, .int (nI (rdB (hP n S (nI t) (nI act) dd (nI 0) (nI 0)) C))), (5, .int (nI t)), (4, .int (bI fb)), (0, .ref b), (1, .int (nI act)), (2, .int (nI S)), (3, .int (nI (rdB (fun c => alw (n (46 + 5 * c + 0))) C)))]) hE.x hE.b dX4_agreesIn_31 hl (by decide) rfl (fun ls hl => ?_)
        refine lv_aload_n hE.x hE.b dX4_agreesIn_33 rfl (lv_at hl 3 rfl) ?_
        refine z_get (v := .ref (a 0)) hE hB inX4 0 rfl rfl 4 (by decide) q1_43 (fun _ h9 => h9) rfl dX4_agreesIn_34 ?_
        refine lv_iload hE.x hE.b dX4_agreesIn_37 (lv_at hl 1 rfl) ?_
        refine z_iald (k := t) (f := rd) hE hB 1 rfl (by omega) (by decide) dX4_agreesIn_39 ?_
        refine z_top (y := (n (4 + t))) (hrel.1 t (by omega)) ?_
        refine lv_iload hE.x hE.b dX4_agreesIn_40 (lv_at hl 0 rfl) ?_
        refine lv_iload_n hE.x hE.b dX4_agreesIn_42 rfl (lv_at hl 6 rfl) ?_
        refine z_qi hB (z_cSN hE hB (c_X8_forbidden l g (n (4 + t)) (rdB (hP n S (nI t) (nI act) dd (nI 0) (nI 0)) C) (rdB (fun c => alw (n (46 + 5 * c + 0))) C) (hP n S (nI t) (nI act) dd (nI 0) (nI 0)) (fun c => alw (n (46 + 5 * c + 0))) C (lW g b a (nI T) (nI C) (nI U) (nI V) rd ro lw pl pc gv aw nt ++ X) rfl rfl (by omega)) hE.2.1.2.1.2.2.2.2.1 kX8_forbidden ⟨rfl, rfl⟩ ⟨Nat.le_of_ble_eq_true rfl, Nat.le_of_ble_eq_true rfl⟩ rfl hl.1 rfl (Nat.le_of_ble_eq_true rfl) dX4_agreesIn_43 ⟨Nat.le_of_ble_eq_true rfl, Nat.le_of_ble_eq_true rfl⟩) (fun r_2 w_3 H locs hw hB => ?_)
        obtain ⟨hr9, hw9⟩ := hw
        have hr9 := hr9.symm
        subst hr9
        have hw9 := hw9.symm
        subst hw9
        refine z_top (y := (bI (!acAl n C dd S act t))) (congrArg bI frb_A) ?_
        refine lv_istore (lv' := [(7, .int (bI (!acAl n C dd S act t))), (6, .int (nI (rdB (hP n S (nI t) (nI act) dd (nI 0) (nI 0)) C))), (5, .int (nI t)), (4, .int (bI fb)), (0, .ref b), (1, .int (nI act)), (2, .int (nI S)), (3, .int (nI (rdB (fun c => alw (n (46 + 5 * c + 0))) C)))]) hE.x hE.b dX4_agreesIn_46 hl (by decide) rfl (fun ls hl => ?_)
        refine lv_iload hE.x hE.b dX4_agreesIn_48 (lv_at hl 2 rfl) ?_
        refine z_ne0 (tgt := 60) (X := ((t : Nat) : Int)) hE dX4_agreesIn_50 (by decide) (nI_toInt (n := t) (by omega)) (fun c_4 => ?_) (fun c_4 => ?_)
        · refine lv_iload hE.x hE.b dX4_agreesIn_60 (lv_at hl 0 rfl) ?_
          refine lv_iload hE.x hE.b dX4_agreesIn_62 (lv_at hl 3 rfl) ?_
          refine lv_icmp_eq (tgt := 69) hE.x hE.b dX4_agreesIn_64 (by decide) (fun c_5 => ?_) (fun c_5 => ?_)
          · refine lv_iinc (v := (nI (t + 1))) (lv' := [(5, .int (nI (t + 1))), (7, .int (bI (!acAl n C dd S act t))), (6, .int (nI (rdB (hP n S (nI t) (nI act) dd (nI 0) (nI 0)) C))), (4, .int (bI fb)), (0, .ref b), (1, .int (nI act)), (2, .int (nI S)), (3, .int (nI (rdB (fun c => alw (n (46 + 5 * c + 0))) C)))]) hE.x hE.b dX4_agreesIn_69 hl (k := 2) rfl (nI_add _ _) (by decide) rfl (fun ls hl => ?_)
            refine lv_goto (tgt := 6) hE.x hE.b dX4_agreesIn_72 (by decide) ?_
            exact ih6 fb (t + 1) _ _ _ (by omega) (by omega) (fun _ => hfb (by omega)) (ag_next hal (by have h8 := bI_inj c_5; rw [hfb (by omega)] at h8; simpa using h8)) hB (lv_sub hl [0, 3, 4, 5, 6, 7] rfl)
          · refine lv_iconst (v := nI 0) hE.x hE.b dX4_agreesIn_67 rfl ?_
            exact z_bret (b := false) (ws := lW g b a (nI T) (nI C) (nI U) (nI V) rd ro lw pl pc gv aw nt ++ X) hE hB hr (⟨false, rfl, rfl, ⟨fun h => (by cases h), fun h => absurd (by rw [hfb (by omega), h t (by omega) (by omega)]) c_5⟩⟩) dX4_agreesIn_68
        · refine lv_iload hE.x hE.b dX4_agreesIn_53 (lv_at hl 0 rfl) ?_
          refine lv_istore (lv' := [(4, .int (bI (!acAl n C dd S act t))), (7, .int (bI (!acAl n C dd S act t))), (6, .int (nI (rdB (hP n S (nI t) (nI act) dd (nI 0) (nI 0)) C))), (5, .int (nI t)), (0, .ref b), (1, .int (nI act)), (2, .int (nI S)), (3, .int (nI (rdB (fun c => alw (n (46 + 5 * c + 0))) C)))]) hE.x hE.b dX4_agreesIn_55 hl (by decide) rfl (fun ls hl => ?_)
          refine lv_goto (tgt := 69) hE.x hE.b dX4_agreesIn_57 (by decide) ?_
          refine lv_iinc (v := (nI (t + 1))) (lv' := [(5, .int (nI (t + 1))), (4, .int (bI (!acAl n C dd S act t))), (7, .int (bI (!acAl n C dd S act t))), (6, .int (nI (rdB (hP n S (nI t) (nI act) dd (nI 0) (nI 0)) C))), (0, .ref b), (1, .int (nI act)), (2, .int (nI S)), (3, .int (nI (rdB (fun c => alw (n (46 + 5 * c + 0))) C)))]) hE.x hE.b dX4_agreesIn_69 hl (k := 3) rfl (nI_add _ _) (by decide) rfl (fun ls hl => ?_)
          refine lv_goto (tgt := 6) hE.x hE.b dX4_agreesIn_72 (by decide) ?_
          exact ih6 (!acAl n C dd S act t) (t + 1) _ _ _ (by omega) (by omega) (fun _ => by rw [show t = 0 by omega]) (fun t' h1 h2 => absurd h1 (by omega)) hB (lv_sub hl [0, 1, 4, 5, 6, 7] rfl)
  exact k6 (T - 0 + 1) false 0 _ _ _ (Nat.lt_succ_self _) (by omega) (fun h => absurd h (Nat.not_lt_zero 0)) (fun t' _ h => absurd h (Nat.not_lt_zero t')) hB hl

set_option maxHeartbeats 4000000 in
set_option maxRecDepth 100000 in
theorem c_X4_agrees (l : Launch) (g : zG) (b : Nat) (a : Nat → Nat) (T : Nat) (C : Nat) (U : Nat) (V : Nat) (rd : Nat → Int32) (ro : Nat → Int32) (lw : Nat → Option Nat) (pl : Nat → Option Nat) (pc : Nat → Int32) (gv : Nat → Int32) (aw : Nat → Int32) (nt : Nat → Int32) (ac : Nat) (S : Nat) (dd : Int32) (n : Nat → Int32) (B : va_W) (X : va_W) (hn : nOK n T C V U) (hrel : relL n T C U V rd ro lw pl pc gv B) (hBX : ∀ x ∈ B, x ∈ X) (hac : ac < 64) (hnt : ntOK n C T ac dd nt 6) : Met l yX4_agrees (Cond.code yX4_agrees cX4_agrees 5 (some .boolean) :: TBL) { frames := 4, cells := 0, slots := 0, locals := 95 } (zPc [.ref b, .int (nI ac), .int (nI S), .int (nI (rdB (fun c => alw (n (46 + 5 * c + 0))) C))] g (lW g b a (nI T) (nI C) (nI U) (nI V) rd ro lw pl pc gv aw nt ++ X)) (zQi g (fun r ws => r = bI (agB (acAl n C dd S) T ac) ∧ ws = lW g b a (nI T) (nI C) (nI U) (nI V) rd ro lw pl pc gv aw nt ++ X)) 0 0 (zA (gz g)) := by
  refine z_start (by decide +kernel) rfl (Nat.le_of_ble_eq_true rfl) ?_
  intro p e s m args below meth c ls hE hr hnm hB hl
  have hl : lv_has ls 5 [(0, .ref b), (1, .int (nI ac)), (2, .int (nI S)), (3, .int (nI (rdB (fun c => alw (n (46 + 5 * c + 0))) C)))] := hl
  revert hB
  generalize s.heap = H
  generalize ([] : List Loc) = locs
  intro hB
  have hT6 := hn.T6
  have hC8 := hn.C8
  have hV8 := hn.V8
  have hU8 := hn.U8
  refine lv_iconst (v := nI 0) hE.x hE.b dX4_agrees_0 rfl ?_
  refine lv_istore (lv' := [(4, .int (nI 0)), (0, .ref b), (1, .int (nI ac)), (2, .int (nI S)), (3, .int (nI (rdB (fun c => alw (n (46 + 5 * c + 0))) C)))]) hE.x hE.b dX4_agrees_1 hl (by decide) rfl (fun ls hl => ?_)
  have k3 : ∀ (fu : Nat) (act : Nat) (H : Heap) (locs : List Loc) (ls : Array Slot), 6 - act < fu → (act ≤ 6) → (agP (acAl n C dd S) T ac act) → zB g s (lW g b a (nI T) (nI C) (nI U) (nI V) rd ro lw pl pc gv aw nt ++ X) H locs → lv_has ls 5 [(4, .int (nI act)), (0, .ref b), (1, .int (nI ac)), (2, .int (nI S)), (3, .int (nI (rdB (fun c => alw (n (46 + 5 * c + 0))) C)))] → W p l e { frames := 4, cells := 0, slots := 0, locals := 95 } s m args below meth c H locs 0 0 (MQ below (zQi g (fun r ws => r = bI (agB (acAl n C dd S) T ac) ∧ ws = lW g b a (nI T) (nI C) (nI U) (nI V) rd ro lw pl pc gv aw nt ++ X)) args s 0 0 (zA (gz g))) (F0 m 3 ls []) := by
    intro fu
    induction fu with
    | zero => intro act H locs ls hfu hact hag hB hl; exact absurd hfu (Nat.not_lt_zero _)
    | succ fu ih3 =>
      intro act H locs ls hfu hact hag hB hl
      refine lv_iload hE.x hE.b dX4_agrees_3 (lv_at hl 0 rfl) ?_
      refine lv_bipush (v := (nI 6)) hE.x hE.b dX4_agrees_5 rfl ?_
      refine z_ge (tgt := 38) (X := ((act : Nat) : Int)) (Y := (6 : Int)) hE dX4_agrees_7 (by decide) (nI_toInt (n := act) (by omega)) rfl (fun c_1 => ?_) (fun c_1 => ?_)
      · refine lv_iconst (v := nI 1) hE.x hE.b dX4_agrees_38 rfl ?_
        exact z_bret (b := true) (ws := lW g b a (nI T) (nI C) (nI U) (nI V) rd ro lw pl pc gv aw nt ++ X) hE hB hr (⟨congrArg bI (agB_t (by rw [show (6 : Nat) = act by omega]; exact hag)).symm, rfl⟩) dX4_agrees_39
      · refine lv_iload_n hE.x hE.b dX4_agrees_10 rfl (lv_at hl 2 rfl) ?_
        refine lv_iload hE.x hE.b dX4_agrees_11 (lv_at hl 0 rfl) ?_
        refine lv_ishr hE.x hE.b dX4_agrees_13 ?_
        refine z_top (y := (nI (ac / 2 ^ act))) (shr_nI (by omega) (by omega)) ?_
        refine lv_iconst (v := nI 1) hE.x hE.b dX4_agrees_14 rfl ?_
        refine lv_iand hE.x hE.b dX4_agrees_15 ?_
        refine z_top (y := (nI (ac / 2 ^ act % 2))) (and1_nI (by have := Nat.div_le_self ac (2 ^ act); omega)) ?_
        have hb2 : ac / 2 ^ act % 2 < 2 := Nat.mod_lt _ (by omega)
        refine z_eq0 (tgt := 32) (X := (((ac / 2 ^ act % 2) : Nat) : Int)) hE dX4_agrees_16 (by decide) (nI_toInt (n := (ac / 2 ^ act % 2)) (by omega)) (fun c_2 => ?_) (fun c_2 => ?_)
        · refine lv_iinc (v := (nI (act + 1))) (lv' := [(4, .int (nI (act + 1))), (0, .ref b), (1, .int (nI ac)), (2, .int (nI S)), (3, .int (nI (rdB (fun c => alw (n (46 + 5 * c + 0))) C)))]) hE.x hE.b dX4_agrees_32 hl (k := 0) rfl (nI_add _ _) (by decide) rfl (fun ls hl => ?_)
          refine lv_goto (tgt := 3) hE.x hE.b dX4_agrees_35 (by decide) ?_
          exact ih3 (act + 1) _ _ _ (by omega) (by omega) (agP_succ.mpr ⟨hag, (fun hb => absurd hb (by omega))⟩) hB hl
        · refine lv_aload_n hE.x hE.b dX4_agrees_19 rfl (lv_at hl 1 rfl) ?_
          refine lv_iload hE.x hE.b dX4_agrees_20 (lv_at hl 0 rfl) ?_
          refine lv_iload_n hE.x hE.b dX4_agrees_22 rfl (lv_at hl 3 rfl) ?_
          refine lv_iload_n hE.x hE.b dX4_agrees_23 rfl (lv_at hl 4 rfl) ?_
          refine z_qi hB (z_cV hE hB (c_X4_agreesIn l g b a T C U V rd ro lw pl pc gv aw nt act S dd n B X hn hrel hBX (by omega) (hnt act (by omega) (by omega))) q3_98 kX4_agreesIn ⟨rfl, rfl⟩ ⟨Nat.le_of_ble_eq_true rfl, Nat.le_of_ble_eq_true rfl⟩ 0 rfl rfl rfl hl.1 rfl (Nat.le_of_ble_eq_true rfl) dX4_agrees_24 ⟨Nat.le_of_ble_eq_true rfl, Nat.le_of_ble_eq_true rfl⟩) (fun r_3 w_4 H locs hw hB => ?_)
          obtain ⟨bb_5, hr9, hw9, hf_6⟩ := hw
          have hr9 := hr9.symm
          subst hr9
          have hw9 := hw9.symm
          subst hw9
          refine z_bt (b := bb_5) (tgt := 32) hE dX4_agrees_27 (by decide) (fun c_7 => ?_) (fun c_7 => ?_)
          · refine lv_iinc (v := (nI (act + 1))) (lv' := [(4, .int (nI (act + 1))), (0, .ref b), (1, .int (nI ac)), (2, .int (nI S)), (3, .int (nI (rdB (fun c => alw (n (46 + 5 * c + 0))) C)))]) hE.x hE.b dX4_agrees_32 hl (k := 0) rfl (nI_add _ _) (by decide) rfl (fun ls hl => ?_)
            refine lv_goto (tgt := 3) hE.x hE.b dX4_agrees_35 (by decide) ?_
            exact ih3 (act + 1) _ _ _ (by omega) (by omega) (agP_succ.mpr ⟨hag, (fun _ => hf_6.mp c_7)⟩) hB hl
          · refine lv_iconst (v := nI 0) hE.x hE.b dX4_agrees_30 rfl ?_
            exact z_bret (b := false) (ws := lW g b a (nI T) (nI C) (nI U) (nI V) rd ro lw pl pc gv aw nt ++ X) hE hB hr (⟨congrArg bI (agB_f (fun z => by rw [hf_6.mpr ((agP_succ.mp (agP_mono (k := act + 1) z (by omega))).2 (by omega))] at c_7; cases c_7)).symm, rfl⟩) dX4_agrees_31
  exact k3 (6 - 0 + 1) 0 _ _ _ (Nat.lt_succ_self _) (by omega) agP_0 hB hl

set_option maxHeartbeats 4000000 in
set_option maxRecDepth 100000 in
theorem c_X4_isForged (l : Launch) (g : zG) (b : Nat) (a : Nat → Nat) (T : Nat) (C : Nat) (U : Nat) (V : Nat) (rd : Nat → Int32) (ro : Nat → Int32) (lw : Nat → Option Nat) (pl : Nat → Option Nat) (pc : Nat → Int32) (gv : Nat → Int32) (aw : Nat → Int32) (nt : Nat → Int32) (k : Nat) (n : Nat → Int32) (B : va_W) (X : va_W) (hn : nOK n T C V U) (hrel : relL n T C U V rd ro lw pl pc gv B) (hBX : ∀ x ∈ B, x ∈ X) (hk : k < V) : Met l yX4_isForged (Cond.code yX4_isForged cX4_isForged 4 (some .boolean) :: TBL) { frames := 4, cells := 0, slots := 0, locals := 92 } (zPc [.ref b, .int (nI k)] g (lW g b a (nI T) (nI C) (nI U) (nI V) rd ro lw pl pc gv aw nt ++ X)) (zQi g (fun r ws => r = bI (fgP n C k) ∧ ws = lW g b a (nI T) (nI C) (nI U) (nI V) rd ro lw pl pc gv aw nt ++ X)) 0 0 (zA (gz g)) := by
  refine z_start (by decide +kernel) rfl (Nat.le_of_ble_eq_true rfl) ?_
  intro p e s m args below meth c ls hE hr hnm hB hl
  have hl : lv_has ls 4 [(0, .ref b), (1, .int (nI k))] := hl
  revert hB
  generalize s.heap = H
  generalize ([] : List Loc) = locs
  intro hB
  have hT6 := hn.T6
  have hC8 := hn.C8
  have hV8 := hn.V8
  have hU8 := hn.U8
  obtain ⟨t, a1, d1, y1, z1, ht, h2, h3, h4, h5, et, ea, ed, ey, ez⟩ := hn.Lv k hk
  have hg : ∀ j, j < 5 → gv (5 * k + j) = n (86 + 5 * k + j) := fun j hj => by rw [Nat.add_assoc]; exact hrel.2.2.2.1 _ (by omega)
  refine lv_iconst (v := nI 5) hE.x hE.b dX4_isForged_0 rfl ?_
  refine lv_iload_n hE.x hE.b dX4_isForged_1 rfl (lv_at hl 1 rfl) ?_
  refine z_imulN hE dX4_isForged_2 ?_
  refine lv_istore_n (lv' := [(2, .int (nI (5 * k))), (0, .ref b), (1, .int (nI k))]) hE.x hE.b dX4_isForged_3 rfl hl (by decide) rfl (fun ls hl => ?_)
  refine lv_aload_n hE.x hE.b dX4_isForged_4 rfl (lv_at hl 1 rfl) ?_
  refine z_get (v := .ref (a 5)) hE hB inX4 0 rfl rfl 9 (by decide) q1_48 (fun _ h9 => h9) rfl dX4_isForged_5 ?_
  refine lv_iload_n hE.x hE.b dX4_isForged_8 rfl (lv_at hl 0 rfl) ?_
  refine lv_iconst (v := nI 3) hE.x hE.b dX4_isForged_9 rfl ?_
  refine z_iaddN hE dX4_isForged_10 ?_
  refine z_iald (k := ((5 * k) + 3)) (f := gv) hE hB 6 rfl (by omega) (by decide) dX4_isForged_11 ?_
  refine z_top (y := (nI y1)) ((hg 3 (by decide)).trans ey) ?_
  refine lv_aload_n hE.x hE.b dX4_isForged_12 rfl (lv_at hl 1 rfl) ?_
  refine z_get (v := .ref (a 5)) hE hB inX4 0 rfl rfl 9 (by decide) q1_48 (fun _ h9 => h9) rfl dX4_isForged_13 ?_
  refine lv_iload_n hE.x hE.b dX4_isForged_16 rfl (lv_at hl 0 rfl) ?_
  refine lv_iconst (v := nI 4) hE.x hE.b dX4_isForged_17 rfl ?_
  refine z_iaddN hE dX4_isForged_18 ?_
  refine z_iald (k := ((5 * k) + 4)) (f := gv) hE hB 6 rfl (by omega) (by decide) dX4_isForged_19 ?_
  refine z_top (y := (nI z1)) ((hg 4 (by decide)).trans ez) ?_
  refine z_qi hB (z_cSN hE hB (c_X8_asker l g y1 z1 (lW g b a (nI T) (nI C) (nI U) (nI V) rd ro lw pl pc gv aw nt ++ X)) hE.2.1.2.1.2.2.2.2.2.1 kX8_asker ⟨rfl, rfl⟩ ⟨Nat.le_of_ble_eq_true rfl, Nat.le_of_ble_eq_true rfl⟩ rfl hl.1 rfl (Nat.le_of_ble_eq_true rfl) dX4_isForged_20 ⟨Nat.le_of_ble_eq_true rfl, Nat.le_of_ble_eq_true rfl⟩) (fun r_1 w_2 H locs hw hB => ?_)
  obtain ⟨hr9, hw9⟩ := hw
  have hr9 := hr9.symm
  subst hr9
  have hw9 := hw9.symm
  subst hw9
  refine lv_istore_n (lv' := [(3, .int (nI (2 * y1 + z1))), (2, .int (nI (5 * k))), (0, .ref b), (1, .int (nI k))]) hE.x hE.b dX4_isForged_23 rfl hl (by decide) rfl (fun ls hl => ?_)
  refine lv_aload_n hE.x hE.b dX4_isForged_24 rfl (lv_at hl 2 rfl) ?_
  refine lv_aload_n hE.x hE.b dX4_isForged_25 rfl (lv_at hl 2 rfl) ?_
  refine z_get (v := .ref (a 5)) hE hB inX4 0 rfl rfl 9 (by decide) q1_48 (fun _ h9 => h9) rfl dX4_isForged_26 ?_
  refine lv_iload_n hE.x hE.b dX4_isForged_29 rfl (lv_at hl 1 rfl) ?_
  refine z_iald (k := (5 * k)) (f := gv) hE hB 6 rfl (by omega) (by decide) dX4_isForged_30 ?_
  refine z_top (y := (nI t)) ((hg 0 (by decide)).trans et) ?_
  refine lv_aload_n hE.x hE.b dX4_isForged_31 rfl (lv_at hl 2 rfl) ?_
  refine z_get (v := .ref (a 5)) hE hB inX4 0 rfl rfl 9 (by decide) q1_48 (fun _ h9 => h9) rfl dX4_isForged_32 ?_
  refine lv_iload_n hE.x hE.b dX4_isForged_35 rfl (lv_at hl 1 rfl) ?_
  refine lv_iconst (v := nI 1) hE.x hE.b dX4_isForged_36 rfl ?_
  refine z_iaddN hE dX4_isForged_37 ?_
  refine z_iald (k := ((5 * k) + 1)) (f := gv) hE hB 6 rfl (by omega) (by decide) dX4_isForged_38 ?_
  refine z_top (y := (n (86 + 5 * k + 1))) (hg 1 (by decide)) ?_
  refine lv_aload_n hE.x hE.b dX4_isForged_39 rfl (lv_at hl 2 rfl) ?_
  refine z_get (v := .ref (a 5)) hE hB inX4 0 rfl rfl 9 (by decide) q1_48 (fun _ h9 => h9) rfl dX4_isForged_40 ?_
  refine lv_iload_n hE.x hE.b dX4_isForged_43 rfl (lv_at hl 1 rfl) ?_
  refine lv_iconst (v := nI 2) hE.x hE.b dX4_isForged_44 rfl ?_
  refine z_iaddN hE dX4_isForged_45 ?_
  refine z_iald (k := ((5 * k) + 2)) (f := gv) hE hB 6 rfl (by omega) (by decide) dX4_isForged_46 ?_
  refine z_top (y := (n (86 + 5 * k + 2))) (hg 2 (by decide)) ?_
  refine lv_iload_n hE.x hE.b dX4_isForged_47 rfl (lv_at hl 0 rfl) ?_
  refine z_qi hB (z_cV hE hB (c_X4_forbids l g b a T C U V rd ro lw pl pc gv aw nt t (n (86 + 5 * k + 1)) (n (86 + 5 * k + 2)) (2 * y1 + z1) n B X hn hrel hBX (by omega) (by omega)) q3_80 kX4_forbids ⟨rfl, rfl⟩ ⟨Nat.le_of_ble_eq_true rfl, Nat.le_of_ble_eq_true rfl⟩ 0 rfl rfl rfl hl.1 rfl (Nat.le_of_ble_eq_true rfl) dX4_isForged_48 ⟨Nat.le_of_ble_eq_true rfl, Nat.le_of_ble_eq_true rfl⟩) (fun r_3 w_4 H locs hw hB => ?_)
  obtain ⟨hr9, hw9⟩ := hw
  have hr9 := hr9.symm
  subst hr9
  have hw9 := hw9.symm
  subst hw9
  exact z_bret (b := (!isA n C t (n (86 + 5 * k + 1)) (n (86 + 5 * k + 2)) (nI ((2 * y1 + z1) / 2)) (nI ((2 * y1 + z1) % 2)) 0)) (ws := lW g b a (nI T) (nI C) (nI U) (nI V) rd ro lw pl pc gv aw nt ++ X) hE hB hr (⟨by rw [fgP_d et (by omega), ey, ez, show (2 * y1 + z1) / 2 = y1 by omega, show (2 * y1 + z1) % 2 = z1 by omega], rfl⟩) dX4_isForged_51

set_option maxHeartbeats 4000000 in
set_option maxRecDepth 100000 in
theorem c_X4_addLeave (l : Launch) (g : zG) (b : Nat) (a : Nat → Nat) (T : Nat) (C : Nat) (U : Nat) (V : Nat) (rd : Nat → Int32) (ro : Nat → Int32) (lw : Nat → Option Nat) (pl : Nat → Option Nat) (pc : Nat → Int32) (gv : Nat → Int32) (aw : Nat → Int32) (nt : Nat → Int32) (t : Int32) (a1 : Int32) (d1 : Int32) (y1 : Int32) (z1 : Int32) (X : va_W) (hV8 : V < 8) : Met l yX4_addLeave (Cond.code yX4_addLeave cX4_addLeave 7 none :: TBL) { frames := 0, cells := 0, slots := 0, locals := 0 } (zPc [.ref b, .int t, .int a1, .int d1, .int y1, .int z1] g (lW g b a (nI T) (nI C) (nI U) (nI V) rd ro lw pl pc gv aw nt ++ X)) (zQv g (fun ws => ws = lW g b a (nI T) (nI C) (nI U) (nI (V + 1)) rd ro lw pl pc (upd (upd (upd (upd (upd gv (5 * V) t) (5 * V + 1) a1) (5 * V + 2) d1) (5 * V + 3) y1) (5 * V + 4) z1) aw nt ++ X)) 0 0 (zA (gz g)) := by
  refine z_start (by decide +kernel) rfl (Nat.le_of_ble_eq_true rfl) ?_
  intro p e s m args below meth c ls hE hr hnm hB hl
  have hl : lv_has ls 7 [(0, .ref b), (1, .int t), (2, .int a1), (3, .int d1), (4, .int y1), (5, .int z1)] := hl
  revert hB
  generalize s.heap = H
  generalize ([] : List Loc) = locs
  intro hB
  refine lv_iconst (v := nI 5) hE.x hE.b dX4_addLeave_0 rfl ?_
  refine lv_aload_n hE.x hE.b dX4_addLeave_1 rfl (lv_at hl 0 rfl) ?_
  refine z_get (v := .int (nI V)) hE hB inX4 0 rfl rfl 3 (by decide) q1_41 (fun _ h9 => h9) rfl dX4_addLeave_2 ?_
  refine z_imulN hE dX4_addLeave_5 ?_
  refine lv_istore (lv' := [(6, .int (nI (5 * V))), (0, .ref b), (1, .int t), (2, .int a1), (3, .int d1), (4, .int y1), (5, .int z1)]) hE.x hE.b dX4_addLeave_6 hl (by decide) rfl (fun ls hl => ?_)
  refine lv_aload_n hE.x hE.b dX4_addLeave_8 rfl (lv_at hl 1 rfl) ?_
  refine z_get (v := .ref (a 5)) hE hB inX4 0 rfl rfl 9 (by decide) q1_48 (fun _ h9 => h9) rfl dX4_addLeave_9 ?_
  refine lv_iload hE.x hE.b dX4_addLeave_12 (lv_at hl 0 rfl) ?_
  refine lv_iload_n hE.x hE.b dX4_addLeave_14 rfl (lv_at hl 2 rfl) ?_
  refine z_iast (k := (5 * V)) (f := gv) (x := t) (ws' := lW g b a (nI T) (nI C) (nI U) (nI V) rd ro lw pl pc (upd gv (5 * V) t) aw nt ++ X) hE hB 6 rfl (by omega) (by decide) rfl dX4_addLeave_15 (fun H locs hB => ?_)
  refine lv_aload_n hE.x hE.b dX4_addLeave_16 rfl (lv_at hl 1 rfl) ?_
  refine z_get (v := .ref (a 5)) hE hB inX4 0 rfl rfl 9 (by decide) q1_48 (fun _ h9 => h9) rfl dX4_addLeave_17 ?_
  refine lv_iload hE.x hE.b dX4_addLeave_20 (lv_at hl 0 rfl) ?_
  refine lv_iconst (v := nI 1) hE.x hE.b dX4_addLeave_22 rfl ?_
  refine z_iaddN hE dX4_addLeave_23 ?_
  refine lv_iload_n hE.x hE.b dX4_addLeave_24 rfl (lv_at hl 3 rfl) ?_
  refine z_iast (k := ((5 * V) + 1)) (f := (upd gv (5 * V) t)) (x := a1) (ws' := lW g b a (nI T) (nI C) (nI U) (nI V) rd ro lw pl pc (upd (upd gv (5 * V) t) ((5 * V) + 1) a1) aw nt ++ X) hE hB 6 rfl (by omega) (by decide) rfl dX4_addLeave_25 (fun H locs hB => ?_)
  refine lv_aload_n hE.x hE.b dX4_addLeave_26 rfl (lv_at hl 1 rfl) ?_
  refine z_get (v := .ref (a 5)) hE hB inX4 0 rfl rfl 9 (by decide) q1_48 (fun _ h9 => h9) rfl dX4_addLeave_27 ?_
  refine lv_iload hE.x hE.b dX4_addLeave_30 (lv_at hl 0 rfl) ?_
  refine lv_iconst (v := nI 2) hE.x hE.b dX4_addLeave_32 rfl ?_
  refine z_iaddN hE dX4_addLeave_33 ?_
  refine lv_iload_n hE.x hE.b dX4_addLeave_34 rfl (lv_at hl 4 rfl) ?_
  refine z_iast (k := ((5 * V) + 2)) (f := (upd (upd gv (5 * V) t) ((5 * V) + 1) a1)) (x := d1) (ws' := lW g b a (nI T) (nI C) (nI U) (nI V) rd ro lw pl pc (upd (upd (upd gv (5 * V) t) ((5 * V) + 1) a1) ((5 * V) + 2) d1) aw nt ++ X) hE hB 6 rfl (by omega) (by decide) rfl dX4_addLeave_35 (fun H locs hB => ?_)
  refine lv_aload_n hE.x hE.b dX4_addLeave_36 rfl (lv_at hl 1 rfl) ?_
  refine z_get (v := .ref (a 5)) hE hB inX4 0 rfl rfl 9 (by decide) q1_48 (fun _ h9 => h9) rfl dX4_addLeave_37 ?_
  refine lv_iload hE.x hE.b dX4_addLeave_40 (lv_at hl 0 rfl) ?_
  refine lv_iconst (v := nI 3) hE.x hE.b dX4_addLeave_42 rfl ?_
  refine z_iaddN hE dX4_addLeave_43 ?_
  refine lv_iload hE.x hE.b dX4_addLeave_44 (lv_at hl 5 rfl) ?_
  refine z_iast (k := ((5 * V) + 3)) (f := (upd (upd (upd gv (5 * V) t) ((5 * V) + 1) a1) ((5 * V) + 2) d1)) (x := y1) (ws' := lW g b a (nI T) (nI C) (nI U) (nI V) rd ro lw pl pc (upd (upd (upd (upd gv (5 * V) t) ((5 * V) + 1) a1) ((5 * V) + 2) d1) ((5 * V) + 3) y1) aw nt ++ X) hE hB 6 rfl (by omega) (by decide) rfl dX4_addLeave_46 (fun H locs hB => ?_)
  refine lv_aload_n hE.x hE.b dX4_addLeave_47 rfl (lv_at hl 1 rfl) ?_
  refine z_get (v := .ref (a 5)) hE hB inX4 0 rfl rfl 9 (by decide) q1_48 (fun _ h9 => h9) rfl dX4_addLeave_48 ?_
  refine lv_iload hE.x hE.b dX4_addLeave_51 (lv_at hl 0 rfl) ?_
  refine lv_iconst (v := nI 4) hE.x hE.b dX4_addLeave_53 rfl ?_
  refine z_iaddN hE dX4_addLeave_54 ?_
  refine lv_iload hE.x hE.b dX4_addLeave_55 (lv_at hl 6 rfl) ?_
  refine z_iast (k := ((5 * V) + 4)) (f := (upd (upd (upd (upd gv (5 * V) t) ((5 * V) + 1) a1) ((5 * V) + 2) d1) ((5 * V) + 3) y1)) (x := z1) (ws' := lW g b a (nI T) (nI C) (nI U) (nI V) rd ro lw pl pc (upd (upd (upd (upd (upd gv (5 * V) t) ((5 * V) + 1) a1) ((5 * V) + 2) d1) ((5 * V) + 3) y1) ((5 * V) + 4) z1) aw nt ++ X) hE hB 6 rfl (by omega) (by decide) rfl dX4_addLeave_57 (fun H locs hB => ?_)
  refine lv_aload_n hE.x hE.b dX4_addLeave_58 rfl (lv_at hl 1 rfl) ?_
  refine lv_dup hE.x hE.b dX4_addLeave_59 rfl ?_
  refine z_get (v := .int (nI V)) hE hB inX4 0 rfl rfl 3 (by decide) q1_41 (fun _ h9 => h9) rfl dX4_addLeave_60 ?_
  refine lv_iconst (v := nI 1) hE.x hE.b dX4_addLeave_63 rfl ?_
  refine z_iaddN hE dX4_addLeave_64 ?_
  refine z_put (v := .int (nI (V + 1))) (ty := .int) (ws' := lW g b a (nI T) (nI C) (nI U) (nI (V + 1)) rd ro lw pl pc (upd (upd (upd (upd (upd gv (5 * V) t) ((5 * V) + 1) a1) ((5 * V) + 2) d1) ((5 * V) + 3) y1) ((5 * V) + 4) z1) aw nt ++ X) hE hB inX4 tyX4 tyX4_ok nmX4 0 rfl rfl 3 (by decide) q1_41 (fun _ h9 => h9) rfl (by decide +kernel) rfl rfl (Nat.le_of_ble_eq_true rfl) rfl dX4_addLeave_65 (fun H locs hB => ?_)
  exact z_vret (ws := lW g b a (nI T) (nI C) (nI U) (nI (V + 1)) rd ro lw pl pc (upd (upd (upd (upd (upd gv (5 * V) t) ((5 * V) + 1) a1) ((5 * V) + 2) d1) ((5 * V) + 3) y1) ((5 * V) + 4) z1) aw nt ++ X) hE hB hr (rfl) dX4_addLeave_68

theorem dX8_clause_0 : decode cX8_clause 0 = .ok (.iload_n 1, 1) := by decide +kernel
theorem dX8_clause_1 : decode cX8_clause 1 = .ok (.iconst 0, 1) := by decide +kernel
theorem dX8_clause_2 : decode cX8_clause 2 = .ok (.iconst 5, 1) := by decide +kernel
theorem dX8_clause_3 : decode cX8_clause 3 = .ok (.invokestatic 52, 3) := by decide +kernel
theorem dX8_clause_6 : decode cX8_clause 6 = .ok (.ifCond .eq 43, 3) := by decide +kernel
theorem dX8_clause_9 : decode cX8_clause 9 = .ok (.iload_n 2, 1) := by decide +kernel
theorem dX8_clause_10 : decode cX8_clause 10 = .ok (.iconst 0, 1) := by decide +kernel
theorem dX8_clause_11 : decode cX8_clause 11 = .ok (.iconst 5, 1) := by decide +kernel
theorem dX8_clause_12 : decode cX8_clause 12 = .ok (.invokestatic 52, 3) := by decide +kernel
theorem dX8_clause_15 : decode cX8_clause 15 = .ok (.ifCond .eq 34, 3) := by decide +kernel
theorem dX8_clause_18 : decode cX8_clause 18 = .ok (.iload_n 3, 1) := by decide +kernel
theorem dX8_clause_19 : decode cX8_clause 19 = .ok (.iconst 0, 1) := by decide +kernel
theorem dX8_clause_20 : decode cX8_clause 20 = .ok (.bipush 60, 2) := by decide +kernel
theorem dX8_clause_22 : decode cX8_clause 22 = .ok (.invokestatic 52, 3) := by decide +kernel
theorem dX8_clause_25 : decode cX8_clause 25 = .ok (.ifCond .eq 24, 3) := by decide +kernel
theorem dX8_clause_28 : decode cX8_clause 28 = .ok (.iload 4, 2) := by decide +kernel
theorem dX8_clause_30 : decode cX8_clause 30 = .ok (.iload_n 3, 1) := by decide +kernel
theorem dX8_clause_31 : decode cX8_clause 31 = .ok (.bipush 60, 2) := by decide +kernel
theorem dX8_clause_33 : decode cX8_clause 33 = .ok (.invokestatic 52, 3) := by decide +kernel
theorem dX8_clause_36 : decode cX8_clause 36 = .ok (.ifCond .eq 13, 3) := by decide +kernel
theorem dX8_clause_39 : decode cX8_clause 39 = .ok (.iload 5, 2) := by decide +kernel
theorem dX8_clause_41 : decode cX8_clause 41 = .ok (.iconst 0, 1) := by decide +kernel
theorem dX8_clause_42 : decode cX8_clause 42 = .ok (.iconst 5, 1) := by decide +kernel
theorem dX8_clause_43 : decode cX8_clause 43 = .ok (.invokestatic 52, 3) := by decide +kernel
theorem dX8_clause_46 : decode cX8_clause 46 = .ok (.ifCond .ne 10, 3) := by decide +kernel
theorem dX8_clause_49 : decode cX8_clause 49 = .ok (.aload_n 0, 1) := by decide +kernel
theorem dX8_clause_50 : decode cX8_clause 50 = .ok (.bipush (-2), 2) := by decide +kernel
theorem dX8_clause_52 : decode cX8_clause 52 = .ok (.invokevirtual 56, 3) := by decide +kernel
theorem dX8_clause_55 : decode cX8_clause 55 = .ok (.ireturn, 1) := by decide +kernel
theorem dX8_clause_56 : decode cX8_clause 56 = .ok (.aload_n 0, 1) := by decide +kernel
theorem dX8_clause_57 : decode cX8_clause 57 = .ok (.getfield 10, 3) := by decide +kernel
theorem dX8_clause_60 : decode cX8_clause 60 = .ok (.getfield 80, 3) := by decide +kernel
theorem dX8_clause_63 : decode cX8_clause 63 = .ok (.bipush 8, 2) := by decide +kernel
theorem dX8_clause_65 : decode cX8_clause 65 = .ok (.if_icmp .lt 8, 3) := by decide +kernel
theorem dX8_clause_68 : decode cX8_clause 68 = .ok (.aload_n 0, 1) := by decide +kernel
theorem dX8_clause_69 : decode cX8_clause 69 = .ok (.invokevirtual 60, 3) := by decide +kernel
theorem dX8_clause_72 : decode cX8_clause 72 = .ok (.ireturn, 1) := by decide +kernel
theorem dX8_clause_73 : decode cX8_clause 73 = .ok (.aload_n 0, 1) := by decide +kernel
theorem dX8_clause_74 : decode cX8_clause 74 = .ok (.getfield 10, 3) := by decide +kernel
theorem dX8_clause_77 : decode cX8_clause 77 = .ok (.invokevirtual 83, 3) := by decide +kernel
theorem dX8_clause_80 : decode cX8_clause 80 = .ok (.aload_n 0, 1) := by decide +kernel
theorem dX8_clause_81 : decode cX8_clause 81 = .ok (.getfield 10, 3) := by decide +kernel
theorem dX8_clause_84 : decode cX8_clause 84 = .ok (.iload_n 1, 1) := by decide +kernel
theorem dX8_clause_85 : decode cX8_clause 85 = .ok (.iload_n 2, 1) := by decide +kernel
theorem dX8_clause_86 : decode cX8_clause 86 = .ok (.iload_n 3, 1) := by decide +kernel
theorem dX8_clause_87 : decode cX8_clause 87 = .ok (.iload 4, 2) := by decide +kernel
theorem dX8_clause_89 : decode cX8_clause 89 = .ok (.iload 5, 2) := by decide +kernel
theorem dX8_clause_91 : decode cX8_clause 91 = .ok (.invokestatic 86, 3) := by decide +kernel
theorem dX8_clause_94 : decode cX8_clause 94 = .ok (.invokevirtual 90, 3) := by decide +kernel
theorem dX8_clause_97 : decode cX8_clause 97 = .ok (.aload_n 0, 1) := by decide +kernel
theorem dX8_clause_98 : decode cX8_clause 98 = .ok (.getfield 10, 3) := by decide +kernel
theorem dX8_clause_101 : decode cX8_clause 101 = .ok (.getfield 80, 3) := by decide +kernel
theorem dX8_clause_104 : decode cX8_clause 104 = .ok (.iconst 1, 1) := by decide +kernel
theorem dX8_clause_105 : decode cX8_clause 105 = .ok (.isub, 1) := by decide +kernel
theorem dX8_clause_106 : decode cX8_clause 106 = .ok (.ireturn, 1) := by decide +kernel
theorem dX8_strike_0 : decode cX8_strike 0 = .ok (.iload_n 1, 1) := by decide +kernel
theorem dX8_strike_1 : decode cX8_strike 1 = .ok (.iconst 0, 1) := by decide +kernel
theorem dX8_strike_2 : decode cX8_strike 2 = .ok (.aload_n 0, 1) := by decide +kernel
theorem dX8_strike_3 : decode cX8_strike 3 = .ok (.getfield 10, 3) := by decide +kernel
theorem dX8_strike_6 : decode cX8_strike 6 = .ok (.getfield 80, 3) := by decide +kernel
theorem dX8_strike_9 : decode cX8_strike 9 = .ok (.iconst 1, 1) := by decide +kernel
theorem dX8_strike_10 : decode cX8_strike 10 = .ok (.isub, 1) := by decide +kernel
theorem dX8_strike_11 : decode cX8_strike 11 = .ok (.invokestatic 52, 3) := by decide +kernel
theorem dX8_strike_14 : decode cX8_strike 14 = .ok (.ifCond .ne 10, 3) := by decide +kernel
theorem dX8_strike_17 : decode cX8_strike 17 = .ok (.aload_n 0, 1) := by decide +kernel
theorem dX8_strike_18 : decode cX8_strike 18 = .ok (.bipush (-2), 2) := by decide +kernel
theorem dX8_strike_20 : decode cX8_strike 20 = .ok (.invokevirtual 56, 3) := by decide +kernel
theorem dX8_strike_23 : decode cX8_strike 23 = .ok (.ireturn, 1) := by decide +kernel
theorem dX8_strike_24 : decode cX8_strike 24 = .ok (.aload_n 0, 1) := by decide +kernel
theorem dX8_strike_25 : decode cX8_strike 25 = .ok (.getfield 10, 3) := by decide +kernel
theorem dX8_strike_28 : decode cX8_strike 28 = .ok (.invokevirtual 83, 3) := by decide +kernel
theorem dX8_strike_31 : decode cX8_strike 31 = .ok (.aload_n 0, 1) := by decide +kernel
theorem dX8_strike_32 : decode cX8_strike 32 = .ok (.getfield 10, 3) := by decide +kernel
theorem dX8_strike_35 : decode cX8_strike 35 = .ok (.iload_n 1, 1) := by decide +kernel
theorem dX8_strike_36 : decode cX8_strike 36 = .ok (.invokevirtual 94, 3) := by decide +kernel
theorem dX8_strike_39 : decode cX8_strike 39 = .ok (.aload_n 0, 1) := by decide +kernel
theorem dX8_strike_40 : decode cX8_strike 40 = .ok (.getfield 10, 3) := by decide +kernel
theorem dX8_strike_43 : decode cX8_strike 43 = .ok (.getfield 80, 3) := by decide +kernel
theorem dX8_strike_46 : decode cX8_strike 46 = .ok (.ireturn, 1) := by decide +kernel
theorem dX8_undo_0 : decode cX8_undo 0 = .ok (.aload_n 0, 1) := by decide +kernel
theorem dX8_undo_1 : decode cX8_undo 1 = .ok (.getfield 10, 3) := by decide +kernel
theorem dX8_undo_4 : decode cX8_undo 4 = .ok (.getfield 97, 3) := by decide +kernel
theorem dX8_undo_7 : decode cX8_undo 7 = .ok (.ifCond .gt 8, 3) := by decide +kernel
theorem dX8_undo_10 : decode cX8_undo 10 = .ok (.aload_n 0, 1) := by decide +kernel
theorem dX8_undo_11 : decode cX8_undo 11 = .ok (.invokevirtual 100, 3) := by decide +kernel
theorem dX8_undo_14 : decode cX8_undo 14 = .ok (.ireturn, 1) := by decide +kernel
theorem dX8_undo_15 : decode cX8_undo 15 = .ok (.aload_n 0, 1) := by decide +kernel
theorem dX8_undo_16 : decode cX8_undo 16 = .ok (.getfield 10, 3) := by decide +kernel
theorem dX8_undo_19 : decode cX8_undo 19 = .ok (.invokevirtual 103, 3) := by decide +kernel
theorem dX8_undo_22 : decode cX8_undo 22 = .ok (.aload_n 0, 1) := by decide +kernel
theorem dX8_undo_23 : decode cX8_undo 23 = .ok (.getfield 10, 3) := by decide +kernel
theorem dX8_undo_26 : decode cX8_undo 26 = .ok (.getfield 80, 3) := by decide +kernel
theorem dX8_undo_29 : decode cX8_undo 29 = .ok (.ireturn, 1) := by decide +kernel
theorem dX8_type_0 : decode cX8_type 0 = .ok (.iload_n 1, 1) := by decide +kernel
theorem dX8_type_1 : decode cX8_type 1 = .ok (.iconst 0, 1) := by decide +kernel
theorem dX8_type_2 : decode cX8_type 2 = .ok (.bipush 127, 2) := by decide +kernel
theorem dX8_type_4 : decode cX8_type 4 = .ok (.invokestatic 52, 3) := by decide +kernel
theorem dX8_type_7 : decode cX8_type 7 = .ok (.ifCond .ne 10, 3) := by decide +kernel
theorem dX8_type_10 : decode cX8_type 10 = .ok (.aload_n 0, 1) := by decide +kernel
theorem dX8_type_11 : decode cX8_type 11 = .ok (.bipush (-2), 2) := by decide +kernel
theorem dX8_type_13 : decode cX8_type 13 = .ok (.invokevirtual 56, 3) := by decide +kernel
theorem dX8_type_16 : decode cX8_type 16 = .ok (.ireturn, 1) := by decide +kernel
theorem dX8_type_17 : decode cX8_type 17 = .ok (.aload_n 0, 1) := by decide +kernel
theorem dX8_type_18 : decode cX8_type 18 = .ok (.getfield 27, 3) := by decide +kernel
theorem dX8_type_21 : decode cX8_type 21 = .ok (.sipush 150, 3) := by decide +kernel
theorem dX8_type_24 : decode cX8_type 24 = .ok (.if_icmp .lt 8, 3) := by decide +kernel
theorem dX8_type_27 : decode cX8_type 27 = .ok (.aload_n 0, 1) := by decide +kernel
theorem dX8_type_28 : decode cX8_type 28 = .ok (.invokevirtual 60, 3) := by decide +kernel
theorem dX8_type_31 : decode cX8_type 31 = .ok (.ireturn, 1) := by decide +kernel
theorem dX8_type_32 : decode cX8_type 32 = .ok (.aload_n 0, 1) := by decide +kernel
theorem dX8_type_33 : decode cX8_type 33 = .ok (.getfield 23, 3) := by decide +kernel
theorem dX8_type_36 : decode cX8_type 36 = .ok (.aload_n 0, 1) := by decide +kernel
theorem dX8_type_37 : decode cX8_type 37 = .ok (.getfield 27, 3) := by decide +kernel
theorem dX8_type_40 : decode cX8_type 40 = .ok (.iload_n 1, 1) := by decide +kernel
theorem dX8_type_41 : decode cX8_type 41 = .ok (.i2b, 1) := by decide +kernel
theorem dX8_type_42 : decode cX8_type 42 = .ok (.bastore, 1) := by decide +kernel
theorem dX8_type_43 : decode cX8_type 43 = .ok (.aload_n 0, 1) := by decide +kernel
theorem dX8_type_44 : decode cX8_type 44 = .ok (.dup, 1) := by decide +kernel
theorem dX8_type_45 : decode cX8_type 45 = .ok (.getfield 27, 3) := by decide +kernel
theorem dX8_type_48 : decode cX8_type 48 = .ok (.iconst 1, 1) := by decide +kernel
theorem dX8_type_49 : decode cX8_type 49 = .ok (.iadd, 1) := by decide +kernel
theorem dX8_type_50 : decode cX8_type 50 = .ok (.putfield 27, 3) := by decide +kernel
theorem dX8_type_53 : decode cX8_type 53 = .ok (.aload_n 0, 1) := by decide +kernel
theorem dX8_type_54 : decode cX8_type 54 = .ok (.getfield 27, 3) := by decide +kernel
theorem dX8_type_57 : decode cX8_type 57 = .ok (.ireturn, 1) := by decide +kernel
theorem dX8_clear_0 : decode cX8_clear 0 = .ok (.aload_n 0, 1) := by decide +kernel
theorem dX8_clear_1 : decode cX8_clear 1 = .ok (.getfield 27, 3) := by decide +kernel
theorem dX8_clear_4 : decode cX8_clear 4 = .ok (.istore_n 1, 1) := by decide +kernel
theorem dX8_clear_5 : decode cX8_clear 5 = .ok (.aload_n 0, 1) := by decide +kernel
theorem dX8_clear_6 : decode cX8_clear 6 = .ok (.iconst 0, 1) := by decide +kernel
theorem dX8_clear_7 : decode cX8_clear 7 = .ok (.putfield 27, 3) := by decide +kernel
theorem dX8_clear_10 : decode cX8_clear 10 = .ok (.iload_n 1, 1) := by decide +kernel
theorem dX8_clear_11 : decode cX8_clear 11 = .ok (.ireturn, 1) := by decide +kernel
theorem dX8_leave_0 : decode cX8_leave 0 = .ok (.aload_n 0, 1) := by decide +kernel
theorem dX8_leave_1 : decode cX8_leave 1 = .ok (.iload_n 1, 1) := by decide +kernel
theorem dX8_leave_2 : decode cX8_leave 2 = .ok (.iload_n 2, 1) := by decide +kernel
theorem dX8_leave_3 : decode cX8_leave 3 = .ok (.iload_n 3, 1) := by decide +kernel
theorem dX8_leave_4 : decode cX8_leave 4 = .ok (.iload 4, 2) := by decide +kernel
theorem dX8_leave_6 : decode cX8_leave 6 = .ok (.iload 5, 2) := by decide +kernel
theorem dX8_leave_8 : decode cX8_leave 8 = .ok (.invokevirtual 152, 3) := by decide +kernel
theorem dX8_leave_11 : decode cX8_leave 11 = .ok (.ifCond .ne 10, 3) := by decide +kernel
theorem dX8_leave_14 : decode cX8_leave 14 = .ok (.aload_n 0, 1) := by decide +kernel
theorem dX8_leave_15 : decode cX8_leave 15 = .ok (.bipush (-2), 2) := by decide +kernel
theorem dX8_leave_17 : decode cX8_leave 17 = .ok (.invokevirtual 56, 3) := by decide +kernel
theorem dX8_leave_20 : decode cX8_leave 20 = .ok (.ireturn, 1) := by decide +kernel
theorem dX8_leave_21 : decode cX8_leave 21 = .ok (.aload_n 0, 1) := by decide +kernel
theorem dX8_leave_22 : decode cX8_leave 22 = .ok (.getfield 10, 3) := by decide +kernel
theorem dX8_leave_25 : decode cX8_leave 25 = .ok (.getfield 203, 3) := by decide +kernel
theorem dX8_leave_28 : decode cX8_leave 28 = .ok (.bipush 8, 2) := by decide +kernel
theorem dX8_leave_30 : decode cX8_leave 30 = .ok (.if_icmp .lt 8, 3) := by decide +kernel
theorem dX8_leave_33 : decode cX8_leave 33 = .ok (.aload_n 0, 1) := by decide +kernel
theorem dX8_leave_34 : decode cX8_leave 34 = .ok (.invokevirtual 60, 3) := by decide +kernel
theorem dX8_leave_37 : decode cX8_leave 37 = .ok (.ireturn, 1) := by decide +kernel
theorem dX8_leave_38 : decode cX8_leave 38 = .ok (.aload_n 0, 1) := by decide +kernel
theorem dX8_leave_39 : decode cX8_leave 39 = .ok (.getfield 10, 3) := by decide +kernel
theorem dX8_leave_42 : decode cX8_leave 42 = .ok (.iload_n 1, 1) := by decide +kernel
theorem dX8_leave_43 : decode cX8_leave 43 = .ok (.iload_n 2, 1) := by decide +kernel
theorem dX8_leave_44 : decode cX8_leave 44 = .ok (.iload_n 3, 1) := by decide +kernel
theorem dX8_leave_45 : decode cX8_leave 45 = .ok (.iload 4, 2) := by decide +kernel
theorem dX8_leave_47 : decode cX8_leave 47 = .ok (.iload 5, 2) := by decide +kernel
theorem dX8_leave_49 : decode cX8_leave 49 = .ok (.invokevirtual 206, 3) := by decide +kernel
theorem dX8_leave_52 : decode cX8_leave 52 = .ok (.aload_n 0, 1) := by decide +kernel
theorem dX8_leave_53 : decode cX8_leave 53 = .ok (.getfield 10, 3) := by decide +kernel
theorem dX8_leave_56 : decode cX8_leave 56 = .ok (.getfield 203, 3) := by decide +kernel
theorem dX8_leave_59 : decode cX8_leave 59 = .ok (.iconst 1, 1) := by decide +kernel
theorem dX8_leave_60 : decode cX8_leave 60 = .ok (.isub, 1) := by decide +kernel
theorem dX8_leave_61 : decode cX8_leave 61 = .ok (.ireturn, 1) := by decide +kernel
theorem dX8_burn_0 : decode cX8_burn 0 = .ok (.aload_n 0, 1) := by decide +kernel
theorem dX8_burn_1 : decode cX8_burn 1 = .ok (.getfield 10, 3) := by decide +kernel
theorem dX8_burn_4 : decode cX8_burn 4 = .ok (.getfield 203, 3) := by decide +kernel
theorem dX8_burn_7 : decode cX8_burn 7 = .ok (.istore_n 1, 1) := by decide +kernel
theorem dX8_burn_8 : decode cX8_burn 8 = .ok (.aload_n 0, 1) := by decide +kernel
theorem dX8_burn_9 : decode cX8_burn 9 = .ok (.getfield 10, 3) := by decide +kernel
theorem dX8_burn_12 : decode cX8_burn 12 = .ok (.iconst 0, 1) := by decide +kernel
theorem dX8_burn_13 : decode cX8_burn 13 = .ok (.putfield 203, 3) := by decide +kernel
theorem dX8_burn_16 : decode cX8_burn 16 = .ok (.iload_n 1, 1) := by decide +kernel
theorem dX8_burn_17 : decode cX8_burn 17 = .ok (.ireturn, 1) := by decide +kernel
theorem dX8_part_0 : decode cX8_part 0 = .ok (.iload_n 1, 1) := by decide +kernel
theorem dX8_part_1 : decode cX8_part 1 = .ok (.iconst 0, 1) := by decide +kernel
theorem dX8_part_2 : decode cX8_part 2 = .ok (.iconst 1, 1) := by decide +kernel
theorem dX8_part_3 : decode cX8_part 3 = .ok (.invokestatic 52, 3) := by decide +kernel
theorem dX8_part_6 : decode cX8_part 6 = .ok (.ifCond .ne 11, 3) := by decide +kernel
theorem dX8_part_9 : decode cX8_part 9 = .ok (.aload_n 0, 1) := by decide +kernel
theorem dX8_part_10 : decode cX8_part 10 = .ok (.bipush (-2), 2) := by decide +kernel
theorem dX8_part_12 : decode cX8_part 12 = .ok (.invokevirtual 56, 3) := by decide +kernel
theorem dX8_part_15 : decode cX8_part 15 = .ok (.i2l, 1) := by decide +kernel
theorem dX8_part_16 : decode cX8_part 16 = .ok (.lreturn, 1) := by decide +kernel
theorem dX8_part_17 : decode cX8_part 17 = .ok (.iload_n 1, 1) := by decide +kernel
theorem dX8_part_18 : decode cX8_part 18 = .ok (.ifCond .ne 11, 3) := by decide +kernel
theorem dX8_part_21 : decode cX8_part 21 = .ok (.aload_n 0, 1) := by decide +kernel
theorem dX8_part_22 : decode cX8_part 22 = .ok (.getfield 31, 3) := by decide +kernel
theorem dX8_part_25 : decode cX8_part 25 = .ok (.i2l, 1) := by decide +kernel
theorem dX8_part_26 : decode cX8_part 26 = .ok (.goto 8, 3) := by decide +kernel
theorem dX8_part_29 : decode cX8_part 29 = .ok (.aload_n 0, 1) := by decide +kernel
theorem dX8_part_30 : decode cX8_part 30 = .ok (.getfield 34, 3) := by decide +kernel
theorem dX8_part_33 : decode cX8_part 33 = .ok (.i2l, 1) := by decide +kernel
theorem dX8_part_34 : decode cX8_part 34 = .ok (.lreturn, 1) := by decide +kernel
theorem dX8_status_0 : decode cX8_status 0 = .ok (.iload_n 1, 1) := by decide +kernel
theorem dX8_status_1 : decode cX8_status 1 = .ok (.tableswitch 42 0 2 #[27, 32, 37], 27) := by decide +kernel
theorem dX8_status_28 : decode cX8_status 28 = .ok (.aload_n 0, 1) := by decide +kernel
theorem dX8_status_29 : decode cX8_status 29 = .ok (.getfield 37, 3) := by decide +kernel
theorem dX8_status_32 : decode cX8_status 32 = .ok (.ireturn, 1) := by decide +kernel
theorem dX8_status_33 : decode cX8_status 33 = .ok (.aload_n 0, 1) := by decide +kernel
theorem dX8_status_34 : decode cX8_status 34 = .ok (.getfield 40, 3) := by decide +kernel
theorem dX8_status_37 : decode cX8_status 37 = .ok (.ireturn, 1) := by decide +kernel
theorem dX8_status_38 : decode cX8_status 38 = .ok (.aload_n 0, 1) := by decide +kernel
theorem dX8_status_39 : decode cX8_status 39 = .ok (.getfield 43, 3) := by decide +kernel
theorem dX8_status_42 : decode cX8_status 42 = .ok (.ireturn, 1) := by decide +kernel
theorem dX8_status_43 : decode cX8_status 43 = .ok (.aload_n 0, 1) := by decide +kernel
theorem dX8_status_44 : decode cX8_status 44 = .ok (.iconst (-1), 1) := by decide +kernel
theorem dX8_status_45 : decode cX8_status 45 = .ok (.invokevirtual 56, 3) := by decide +kernel
theorem dX8_status_48 : decode cX8_status 48 = .ok (.ireturn, 1) := by decide +kernel
theorem dX8_count_0 : decode cX8_count 0 = .ok (.iload_n 1, 1) := by decide +kernel
theorem dX8_count_1 : decode cX8_count 1 = .ok (.tableswitch 84 0 5 #[39, 47, 55, 63, 71, 79], 39) := by decide +kernel
theorem dX8_count_40 : decode cX8_count 40 = .ok (.aload_n 0, 1) := by decide +kernel
theorem dX8_count_41 : decode cX8_count 41 = .ok (.getfield 10, 3) := by decide +kernel
theorem dX8_count_44 : decode cX8_count 44 = .ok (.getfield 46, 3) := by decide +kernel
theorem dX8_count_47 : decode cX8_count 47 = .ok (.ireturn, 1) := by decide +kernel
theorem dX8_count_48 : decode cX8_count 48 = .ok (.aload_n 0, 1) := by decide +kernel
theorem dX8_count_49 : decode cX8_count 49 = .ok (.getfield 10, 3) := by decide +kernel
theorem dX8_count_52 : decode cX8_count 52 = .ok (.getfield 80, 3) := by decide +kernel
theorem dX8_count_55 : decode cX8_count 55 = .ok (.ireturn, 1) := by decide +kernel
theorem dX8_count_56 : decode cX8_count 56 = .ok (.aload_n 0, 1) := by decide +kernel
theorem dX8_count_57 : decode cX8_count 57 = .ok (.getfield 10, 3) := by decide +kernel
theorem dX8_count_60 : decode cX8_count 60 = .ok (.invokevirtual 229, 3) := by decide +kernel
theorem dX8_count_63 : decode cX8_count 63 = .ok (.ireturn, 1) := by decide +kernel
theorem dX8_count_64 : decode cX8_count 64 = .ok (.aload_n 0, 1) := by decide +kernel
theorem dX8_count_65 : decode cX8_count 65 = .ok (.getfield 10, 3) := by decide +kernel
theorem dX8_count_68 : decode cX8_count 68 = .ok (.getfield 203, 3) := by decide +kernel
theorem dX8_count_71 : decode cX8_count 71 = .ok (.ireturn, 1) := by decide +kernel
theorem dX8_count_72 : decode cX8_count 72 = .ok (.aload_n 0, 1) := by decide +kernel
theorem dX8_count_73 : decode cX8_count 73 = .ok (.getfield 10, 3) := by decide +kernel
theorem dX8_count_76 : decode cX8_count 76 = .ok (.getfield 97, 3) := by decide +kernel
theorem dX8_count_79 : decode cX8_count 79 = .ok (.ireturn, 1) := by decide +kernel
theorem dX8_count_80 : decode cX8_count 80 = .ok (.aload_n 0, 1) := by decide +kernel
theorem dX8_count_81 : decode cX8_count 81 = .ok (.getfield 27, 3) := by decide +kernel
theorem dX8_count_84 : decode cX8_count 84 = .ok (.ireturn, 1) := by decide +kernel
theorem dX8_count_85 : decode cX8_count 85 = .ok (.aload_n 0, 1) := by decide +kernel
theorem dX8_count_86 : decode cX8_count 86 = .ok (.bipush (-2), 2) := by decide +kernel
theorem dX8_count_88 : decode cX8_count 88 = .ok (.invokevirtual 56, 3) := by decide +kernel
theorem dX8_count_91 : decode cX8_count 91 = .ok (.ireturn, 1) := by decide +kernel
theorem kX8_clause : zCV yX8_clause RX8 cX8_clause 6 (some .int) 5 := ⟨q1_155, q1_156, q1_1, q1_157, rfl, by decide +kernel, by decide +kernel, by decide +kernel⟩
theorem kX8_strike : zCV yX8_strike RX8 cX8_strike 2 (some .int) 1 := ⟨q2_34, q2_35, q1_1, q2_36, rfl, by decide +kernel, by decide +kernel, by decide +kernel⟩
theorem kX8_undo : zCV yX8_undo RX8 cX8_undo 1 (some .int) 0 := ⟨q2_42, q2_43, q1_1, q2_44, rfl, by decide +kernel, by decide +kernel, by decide +kernel⟩
theorem kX8_type : zCV yX8_type RX8 cX8_type 2 (some .int) 1 := ⟨q2_54, q2_55, q1_1, q2_56, rfl, by decide +kernel, by decide +kernel, by decide +kernel⟩
theorem kX8_clear : zCV yX8_clear RX8 cX8_clear 2 (some .int) 0 := ⟨q2_58, q2_59, q1_1, q2_60, rfl, by decide +kernel, by decide +kernel, by decide +kernel⟩
theorem kX8_leave : zCV yX8_leave RX8 cX8_leave 6 (some .int) 5 := ⟨q3_144, q3_145, q1_1, q3_146, rfl, by decide +kernel, by decide +kernel, by decide +kernel⟩
theorem kX8_burn : zCV yX8_burn RX8 cX8_burn 2 (some .int) 0 := ⟨q3_152, q3_153, q1_1, q3_154, rfl, by decide +kernel, by decide +kernel, by decide +kernel⟩
theorem kX8_part : zCV yX8_part RX8 cX8_part 2 (some .long) 1 := ⟨q3_191, q3_192, q1_1, q3_193, rfl, by decide +kernel, by decide +kernel, by decide +kernel⟩
theorem kX8_status : zCV yX8_status RX8 cX8_status 2 (some .int) 1 := ⟨q3_207, q3_208, q1_1, q3_209, rfl, by decide +kernel, by decide +kernel, by decide +kernel⟩
theorem kX8_count : zCV yX8_count RX8 cX8_count 2 (some .int) 1 := ⟨q3_211, q3_212, q1_1, q3_213, rfl, by decide +kernel, by decide +kernel, by decide +kernel⟩
set_option maxHeartbeats 4000000 in
set_option maxRecDepth 100000 in
theorem c_X8_clause (l : Launch) (g : zG) (x9 : Nat) (d : Nat) (rr : Nat) (im : Nat) (tx : Nat) (ab : Int32) (be : Int32) (tb : Nat → Int32) (ib : Nat → Option Nat) (da : Nat → Nat) (T : Nat) (C : Nat) (U : Nat) (V : Nat) (rd : Nat → Int32) (ro : Nat → Int32) (lw : Nat → Option Nat) (pl : Nat → Option Nat) (pc : Nat → Int32) (gv : Nat → Int32) (aw : Nat → Int32) (nt : Nat → Int32) (A : Nat → Nat → Int32) (ln : Nat) (kk : Int32) (ac : Int32) (fr : Int32) (ti : Int32) (w : Int32) (Y : va_W) (X : va_W) (hn : nOK (A 0) T C V U) (hrel : relL (A 0) T C U V rd ro lw pl pc gv Y) : Met l yX8_clause (Cond.code yX8_clause cX8_clause 6 (some .int) :: TBL) { frames := 6, cells := 1, slots := 5, locals := 136 } (zPc [.ref x9, .int kk, .int ac, .int fr, .int ti, .int w] g (xW g x9 d rr im tx (nI ln) ab be (A 3 0) (A 3 1) (A 3 2) tb ib ++ (lW g d da (nI T) (nI C) (nI U) (nI V) rd ro lw pl pc gv aw nt ++ (Y ++ X)))) (zQi g (fun r ws => r = (clauseR C kk ac fr ti w) ∧ lS g x9 d da rr im tx (clauseA A C U kk ac fr ti w) ln ab be tb ib Y X ws)) 1 5 (zA (gz g)) := by
  refine z_start (by decide +kernel) rfl (Nat.le_of_ble_eq_true rfl) ?_
  intro p e s m args below meth c ls hE hr hnm hB hl
  have hl : lv_has ls 6 [(0, .ref x9), (1, .int kk), (2, .int ac), (3, .int fr), (4, .int ti), (5, .int w)] := hl
  revert hB
  generalize s.heap = H
  generalize ([] : List Loc) = locs
  intro hB
  have hT6 := hn.T6
  have hC8 := hn.C8
  have hV8 := hn.V8
  have hU8 := hn.U8
  refine lv_iload_n hE.x hE.b dX8_clause_0 rfl (lv_at hl 1 rfl) ?_
  refine lv_iconst (v := nI 0) hE.x hE.b dX8_clause_1 rfl ?_
  refine lv_iconst (v := nI 5) hE.x hE.b dX8_clause_2 rfl ?_
  refine z_qi hB (z_cS hE hB (c_X8_within l g kk (nI 0) (nI 5) kk.toInt (0 : Int) (5 : Int) (xW g x9 d rr im tx (nI ln) ab be (A 3 0) (A 3 1) (A 3 2) tb ib ++ (lW g d da (nI T) (nI C) (nI U) (nI V) rd ro lw pl pc gv aw nt ++ (Y ++ X))) rfl rfl rfl) q1_123 kX8_within ⟨rfl, rfl⟩ ⟨Nat.le_of_ble_eq_true rfl, Nat.le_of_ble_eq_true rfl⟩ rfl hl.1 rfl (Nat.le_of_ble_eq_true rfl) dX8_clause_3 ⟨Nat.le_of_ble_eq_true rfl, Nat.le_of_ble_eq_true rfl⟩) (fun r_1 w_2 H locs hw hB => ?_)
  obtain ⟨hr9, hw9⟩ := hw
  have hr9 := hr9.symm
  subst hr9
  have hw9 := hw9.symm
  subst hw9
  refine z_bf (b := (inZ (0 : Int) (5 : Int) kk.toInt)) (tgt := 49) hE dX8_clause_6 (by decide) (fun c_3 => ?_) (fun c_3 => ?_)
  · refine lv_aload_n hE.x hE.b dX8_clause_49 rfl (lv_at hl 0 rfl) ?_
    refine lv_bipush (v := (-2)) hE.x hE.b dX8_clause_50 rfl ?_
    refine z_qi hB (z_cV hE hB (c_X8_bad l g x9 d rr im tx (nI ln) ab be (A 3 0) (A 3 1) (A 3 2) tb ib (-2) (lW g d da (nI T) (nI C) (nI U) (nI V) rd ro lw pl pc gv aw nt ++ (Y ++ X))) q1_126 kX8_bad ⟨rfl, rfl⟩ ⟨Nat.le_of_ble_eq_true rfl, Nat.le_of_ble_eq_true rfl⟩ 0 rfl rfl rfl hl.1 rfl (Nat.le_of_ble_eq_true rfl) dX8_clause_52 ⟨Nat.le_of_ble_eq_true rfl, Nat.le_of_ble_eq_true rfl⟩) (fun r_4 w_5 H locs hw hB => ?_)
    obtain ⟨hr9, hw9⟩ := hw
    have hr9 := hr9.symm
    subst hr9
    have hw9 := hw9.symm
    subst hw9
    refine W.widen (k := 1) (n := 5) (by omega) (by omega) ?_
    exact z_iret (v := (-2)) (ws := xW g x9 d rr im tx (nI ln) ab be ((A 3 0) + nI 1) (A 3 1) (A 3 2) tb ib ++ (lW g d da (nI T) (nI C) (nI U) (nI V) rd ro lw pl pc gv aw nt ++ (Y ++ X))) hE hB hr (⟨(by unfold clauseR; rw [if_neg (show ¬ clauseOK kk ac fr ti w = true by rw [cl_ok]; simp [c_3])]), lS_i (A1 := bump 0 A) T C U V rd ro lw pl pc gv aw nt Y (by unfold clauseA; rw [if_neg (show ¬ clauseOK kk ac fr ti w = true by rw [cl_ok]; simp [c_3])]) rfl hn hrel (fun _ h => h)⟩) dX8_clause_55
  · refine lv_iload_n hE.x hE.b dX8_clause_9 rfl (lv_at hl 2 rfl) ?_
    refine lv_iconst (v := nI 0) hE.x hE.b dX8_clause_10 rfl ?_
    refine lv_iconst (v := nI 5) hE.x hE.b dX8_clause_11 rfl ?_
    refine z_qi hB (z_cS hE hB (c_X8_within l g ac (nI 0) (nI 5) ac.toInt (0 : Int) (5 : Int) (xW g x9 d rr im tx (nI ln) ab be (A 3 0) (A 3 1) (A 3 2) tb ib ++ (lW g d da (nI T) (nI C) (nI U) (nI V) rd ro lw pl pc gv aw nt ++ (Y ++ X))) rfl rfl rfl) q1_123 kX8_within ⟨rfl, rfl⟩ ⟨Nat.le_of_ble_eq_true rfl, Nat.le_of_ble_eq_true rfl⟩ rfl hl.1 rfl (Nat.le_of_ble_eq_true rfl) dX8_clause_12 ⟨Nat.le_of_ble_eq_true rfl, Nat.le_of_ble_eq_true rfl⟩) (fun r_6 w_7 H locs hw hB => ?_)
    obtain ⟨hr9, hw9⟩ := hw
    have hr9 := hr9.symm
    subst hr9
    have hw9 := hw9.symm
    subst hw9
    refine z_bf (b := (inZ (0 : Int) (5 : Int) ac.toInt)) (tgt := 49) hE dX8_clause_15 (by decide) (fun c_8 => ?_) (fun c_8 => ?_)
    · refine lv_aload_n hE.x hE.b dX8_clause_49 rfl (lv_at hl 0 rfl) ?_
      refine lv_bipush (v := (-2)) hE.x hE.b dX8_clause_50 rfl ?_
      refine z_qi hB (z_cV hE hB (c_X8_bad l g x9 d rr im tx (nI ln) ab be (A 3 0) (A 3 1) (A 3 2) tb ib (-2) (lW g d da (nI T) (nI C) (nI U) (nI V) rd ro lw pl pc gv aw nt ++ (Y ++ X))) q1_126 kX8_bad ⟨rfl, rfl⟩ ⟨Nat.le_of_ble_eq_true rfl, Nat.le_of_ble_eq_true rfl⟩ 0 rfl rfl rfl hl.1 rfl (Nat.le_of_ble_eq_true rfl) dX8_clause_52 ⟨Nat.le_of_ble_eq_true rfl, Nat.le_of_ble_eq_true rfl⟩) (fun r_9 w_10 H locs hw hB => ?_)
      obtain ⟨hr9, hw9⟩ := hw
      have hr9 := hr9.symm
      subst hr9
      have hw9 := hw9.symm
      subst hw9
      refine W.widen (k := 1) (n := 5) (by omega) (by omega) ?_
      exact z_iret (v := (-2)) (ws := xW g x9 d rr im tx (nI ln) ab be ((A 3 0) + nI 1) (A 3 1) (A 3 2) tb ib ++ (lW g d da (nI T) (nI C) (nI U) (nI V) rd ro lw pl pc gv aw nt ++ (Y ++ X))) hE hB hr (⟨(by unfold clauseR; rw [if_neg (show ¬ clauseOK kk ac fr ti w = true by rw [cl_ok]; simp [c_3, c_8])]), lS_i (A1 := bump 0 A) T C U V rd ro lw pl pc gv aw nt Y (by unfold clauseA; rw [if_neg (show ¬ clauseOK kk ac fr ti w = true by rw [cl_ok]; simp [c_3, c_8])]) rfl hn hrel (fun _ h => h)⟩) dX8_clause_55
    · refine lv_iload_n hE.x hE.b dX8_clause_18 rfl (lv_at hl 3 rfl) ?_
      refine lv_iconst (v := nI 0) hE.x hE.b dX8_clause_19 rfl ?_
      refine lv_bipush (v := (nI 60)) hE.x hE.b dX8_clause_20 rfl ?_
      refine z_qi hB (z_cS hE hB (c_X8_within l g fr (nI 0) (nI 60) fr.toInt (0 : Int) (60 : Int) (xW g x9 d rr im tx (nI ln) ab be (A 3 0) (A 3 1) (A 3 2) tb ib ++ (lW g d da (nI T) (nI C) (nI U) (nI V) rd ro lw pl pc gv aw nt ++ (Y ++ X))) rfl rfl rfl) q1_123 kX8_within ⟨rfl, rfl⟩ ⟨Nat.le_of_ble_eq_true rfl, Nat.le_of_ble_eq_true rfl⟩ rfl hl.1 rfl (Nat.le_of_ble_eq_true rfl) dX8_clause_22 ⟨Nat.le_of_ble_eq_true rfl, Nat.le_of_ble_eq_true rfl⟩) (fun r_11 w_12 H locs hw hB => ?_)
      obtain ⟨hr9, hw9⟩ := hw
      have hr9 := hr9.symm
      subst hr9
      have hw9 := hw9.symm
      subst hw9
      refine z_bf (b := (inZ (0 : Int) (60 : Int) fr.toInt)) (tgt := 49) hE dX8_clause_25 (by decide) (fun c_13 => ?_) (fun c_13 => ?_)
      · refine lv_aload_n hE.x hE.b dX8_clause_49 rfl (lv_at hl 0 rfl) ?_
        refine lv_bipush (v := (-2)) hE.x hE.b dX8_clause_50 rfl ?_
        refine z_qi hB (z_cV hE hB (c_X8_bad l g x9 d rr im tx (nI ln) ab be (A 3 0) (A 3 1) (A 3 2) tb ib (-2) (lW g d da (nI T) (nI C) (nI U) (nI V) rd ro lw pl pc gv aw nt ++ (Y ++ X))) q1_126 kX8_bad ⟨rfl, rfl⟩ ⟨Nat.le_of_ble_eq_true rfl, Nat.le_of_ble_eq_true rfl⟩ 0 rfl rfl rfl hl.1 rfl (Nat.le_of_ble_eq_true rfl) dX8_clause_52 ⟨Nat.le_of_ble_eq_true rfl, Nat.le_of_ble_eq_true rfl⟩) (fun r_14 w_15 H locs hw hB => ?_)
        obtain ⟨hr9, hw9⟩ := hw
        have hr9 := hr9.symm
        subst hr9
        have hw9 := hw9.symm
        subst hw9
        refine W.widen (k := 1) (n := 5) (by omega) (by omega) ?_
        exact z_iret (v := (-2)) (ws := xW g x9 d rr im tx (nI ln) ab be ((A 3 0) + nI 1) (A 3 1) (A 3 2) tb ib ++ (lW g d da (nI T) (nI C) (nI U) (nI V) rd ro lw pl pc gv aw nt ++ (Y ++ X))) hE hB hr (⟨(by unfold clauseR; rw [if_neg (show ¬ clauseOK kk ac fr ti w = true by rw [cl_ok]; simp [c_3, c_8, c_13])]), lS_i (A1 := bump 0 A) T C U V rd ro lw pl pc gv aw nt Y (by unfold clauseA; rw [if_neg (show ¬ clauseOK kk ac fr ti w = true by rw [cl_ok]; simp [c_3, c_8, c_13])]) rfl hn hrel (fun _ h => h)⟩) dX8_clause_55
      · refine lv_iload hE.x hE.b dX8_clause_28 (lv_at hl 4 rfl) ?_
        refine lv_iload_n hE.x hE.b dX8_clause_30 rfl (lv_at hl 3 rfl) ?_
        refine lv_bipush (v := (nI 60)) hE.x hE.b dX8_clause_31 rfl ?_
        refine z_qi hB (z_cS hE hB (c_X8_within l g ti fr (nI 60) ti.toInt fr.toInt (60 : Int) (xW g x9 d rr im tx (nI ln) ab be (A 3 0) (A 3 1) (A 3 2) tb ib ++ (lW g d da (nI T) (nI C) (nI U) (nI V) rd ro lw pl pc gv aw nt ++ (Y ++ X))) rfl rfl rfl) q1_123 kX8_within ⟨rfl, rfl⟩ ⟨Nat.le_of_ble_eq_true rfl, Nat.le_of_ble_eq_true rfl⟩ rfl hl.1 rfl (Nat.le_of_ble_eq_true rfl) dX8_clause_33 ⟨Nat.le_of_ble_eq_true rfl, Nat.le_of_ble_eq_true rfl⟩) (fun r_16 w_17 H locs hw hB => ?_)
        obtain ⟨hr9, hw9⟩ := hw
        have hr9 := hr9.symm
        subst hr9
        have hw9 := hw9.symm
        subst hw9
        refine z_bf (b := (inZ fr.toInt (60 : Int) ti.toInt)) (tgt := 49) hE dX8_clause_36 (by decide) (fun c_18 => ?_) (fun c_18 => ?_)
        · refine lv_aload_n hE.x hE.b dX8_clause_49 rfl (lv_at hl 0 rfl) ?_
          refine lv_bipush (v := (-2)) hE.x hE.b dX8_clause_50 rfl ?_
          refine z_qi hB (z_cV hE hB (c_X8_bad l g x9 d rr im tx (nI ln) ab be (A 3 0) (A 3 1) (A 3 2) tb ib (-2) (lW g d da (nI T) (nI C) (nI U) (nI V) rd ro lw pl pc gv aw nt ++ (Y ++ X))) q1_126 kX8_bad ⟨rfl, rfl⟩ ⟨Nat.le_of_ble_eq_true rfl, Nat.le_of_ble_eq_true rfl⟩ 0 rfl rfl rfl hl.1 rfl (Nat.le_of_ble_eq_true rfl) dX8_clause_52 ⟨Nat.le_of_ble_eq_true rfl, Nat.le_of_ble_eq_true rfl⟩) (fun r_19 w_20 H locs hw hB => ?_)
          obtain ⟨hr9, hw9⟩ := hw
          have hr9 := hr9.symm
          subst hr9
          have hw9 := hw9.symm
          subst hw9
          refine W.widen (k := 1) (n := 5) (by omega) (by omega) ?_
          exact z_iret (v := (-2)) (ws := xW g x9 d rr im tx (nI ln) ab be ((A 3 0) + nI 1) (A 3 1) (A 3 2) tb ib ++ (lW g d da (nI T) (nI C) (nI U) (nI V) rd ro lw pl pc gv aw nt ++ (Y ++ X))) hE hB hr (⟨(by unfold clauseR; rw [if_neg (show ¬ clauseOK kk ac fr ti w = true by rw [cl_ok]; simp [c_3, c_8, c_13, c_18])]), lS_i (A1 := bump 0 A) T C U V rd ro lw pl pc gv aw nt Y (by unfold clauseA; rw [if_neg (show ¬ clauseOK kk ac fr ti w = true by rw [cl_ok]; simp [c_3, c_8, c_13, c_18])]) rfl hn hrel (fun _ h => h)⟩) dX8_clause_55
        · refine lv_iload hE.x hE.b dX8_clause_39 (lv_at hl 5 rfl) ?_
          refine lv_iconst (v := nI 0) hE.x hE.b dX8_clause_41 rfl ?_
          refine lv_iconst (v := nI 5) hE.x hE.b dX8_clause_42 rfl ?_
          refine z_qi hB (z_cS hE hB (c_X8_within l g w (nI 0) (nI 5) w.toInt (0 : Int) (5 : Int) (xW g x9 d rr im tx (nI ln) ab be (A 3 0) (A 3 1) (A 3 2) tb ib ++ (lW g d da (nI T) (nI C) (nI U) (nI V) rd ro lw pl pc gv aw nt ++ (Y ++ X))) rfl rfl rfl) q1_123 kX8_within ⟨rfl, rfl⟩ ⟨Nat.le_of_ble_eq_true rfl, Nat.le_of_ble_eq_true rfl⟩ rfl hl.1 rfl (Nat.le_of_ble_eq_true rfl) dX8_clause_43 ⟨Nat.le_of_ble_eq_true rfl, Nat.le_of_ble_eq_true rfl⟩) (fun r_21 w_22 H locs hw hB => ?_)
          obtain ⟨hr9, hw9⟩ := hw
          have hr9 := hr9.symm
          subst hr9
          have hw9 := hw9.symm
          subst hw9
          refine z_bt (b := (inZ (0 : Int) (5 : Int) w.toInt)) (tgt := 56) hE dX8_clause_46 (by decide) (fun c_23 => ?_) (fun c_23 => ?_)
          · obtain ⟨k, hk, rfl⟩ := pIn_nI (hi := 5) (x := kk) c_3 (by omega)
            refine lv_aload_n hE.x hE.b dX8_clause_56 rfl (lv_at hl 0 rfl) ?_
            refine z_get (v := .ref d) hE hB inX8 0 rfl rfl 0 (by decide) q1_79 (fun _ h9 => h9) rfl dX8_clause_57 ?_
            refine z_get (v := .int (nI C)) hE hB inX4 3 rfl rfl 1 (by decide) q1_37 (fun _ h9 => h9) rfl dX8_clause_60 ?_
            refine lv_bipush (v := (nI 8)) hE.x hE.b dX8_clause_63 rfl ?_
            refine z_lt (tgt := 73) (X := ((C : Nat) : Int)) (Y := (8 : Int)) hE dX8_clause_65 (by decide) (nI_toInt (n := C) (by omega)) rfl (fun c_24 => ?_) (fun c_24 => ?_)
            · refine lv_aload_n hE.x hE.b dX8_clause_73 rfl (lv_at hl 0 rfl) ?_
              refine z_get (v := .ref d) hE hB inX8 0 rfl rfl 0 (by decide) q1_79 (fun _ h9 => h9) rfl dX8_clause_74 ?_
              have hB := zB_perm hB (List.perm_append_comm_assoc _ _ _)
              refine z_qv hB (z_cV hE hB (c_X4_remember l g d da T C U V rd ro lw pl pc gv aw nt (A 0) Y (xW g x9 d rr im tx (nI ln) ab be (A 3 0) (A 3 1) (A 3 2) tb ib ++ (Y ++ X)) hn hrel (fun _ h => List.mem_append_right _ (List.mem_append_left _ h))) q1_158 kX4_remember ⟨rfl, rfl⟩ ⟨Nat.le_of_ble_eq_true rfl, Nat.le_of_ble_eq_true rfl⟩ 0 rfl rfl rfl hl.1 rfl (Nat.le_of_ble_eq_true rfl) dX8_clause_77 ⟨Nat.le_of_ble_eq_true rfl, Nat.le_of_ble_eq_true rfl⟩) (fun w_26 H locs hw hB => ?_)
              have hw9 := hw
              have hw9 := hw9.symm
              subst hw9
              refine lv_aload_n hE.x hE.b dX8_clause_80 rfl (lv_at hl 0 rfl) ?_
              refine z_get (v := .ref d) hE hB inX8 9 rfl rfl 0 (by decide) q1_79 (fun _ h9 => h9) rfl dX8_clause_81 ?_
              refine lv_iload_n hE.x hE.b dX8_clause_84 rfl (lv_at hl 1 rfl) ?_
              refine lv_iload_n hE.x hE.b dX8_clause_85 rfl (lv_at hl 2 rfl) ?_
              refine lv_iload_n hE.x hE.b dX8_clause_86 rfl (lv_at hl 3 rfl) ?_
              refine lv_iload hE.x hE.b dX8_clause_87 (lv_at hl 4 rfl) ?_
              refine lv_iload hE.x hE.b dX8_clause_89 (lv_at hl 5 rfl) ?_
              refine z_qq hB (z_cS hE hB (c_X8_told l g k ac fr ti w (lW g d da (nI T) (nI C) (nI (uK U + 1)) (nI V) rd ro lw (plK lw pl U) (pcK pc U C) gv aw nt ++ (xW g x9 d rr im tx (nI ln) ab be (A 3 0) (A 3 1) (A 3 2) tb ib ++ (Y ++ X))) (by omega)) q1_168 kX8_told ⟨rfl, rfl⟩ ⟨Nat.le_of_ble_eq_true rfl, Nat.le_of_ble_eq_true rfl⟩ rfl hl.1 rfl (Nat.le_of_ble_eq_true rfl) dX8_clause_91 ⟨Nat.le_of_ble_eq_true rfl, Nat.le_of_ble_eq_true rfl⟩) (fun r_27 w_28 H locs hw hB => ?_)
              obtain ⟨q_29, hr9, hw9⟩ := hw
              have hr9 := hr9.symm
              subst hr9
              have hw9 := hw9.symm
              subst hw9
              have hB := zB_perm hB (List.perm_append_comm_assoc _ _ _)
              refine z_qv hB (z_cV hE hB (c_X4_addClause l g d da T C (uK U + 1) V rd ro lw (plK lw pl U) (pcK pc U C) gv aw nt q_29 ([(q_29, bE k ac fr ti w)] ++ (xW g x9 d rr im tx (nI ln) ab be (A 3 0) (A 3 1) (A 3 2) tb ib ++ (Y ++ X))) (by omega) ⟨_, _, _, _, _, (by omega), List.mem_append_left _ (List.mem_singleton.mpr rfl)⟩) q2_29 kX4_addClause ⟨rfl, rfl⟩ ⟨Nat.le_of_ble_eq_true rfl, Nat.le_of_ble_eq_true rfl⟩ 0 rfl rfl rfl hl.1 rfl (Nat.le_of_ble_eq_true rfl) dX8_clause_94 ⟨Nat.le_of_ble_eq_true rfl, Nat.le_of_ble_eq_true rfl⟩) (fun w_31 H locs hw hB => ?_)
              have hw9 := hw
              have hw9 := hw9.symm
              subst hw9
              refine lv_aload_n hE.x hE.b dX8_clause_97 rfl (lv_at hl 0 rfl) ?_
              refine z_get (v := .ref d) hE hB inX8 10 rfl rfl 0 (by decide) q1_79 (fun _ h9 => h9) rfl dX8_clause_98 ?_
              refine z_get (v := .int (nI (C + 1))) hE hB inX4 0 rfl rfl 1 (by decide) q1_37 (fun _ h9 => h9) rfl dX8_clause_101 ?_
              refine lv_iconst (v := nI 1) hE.x hE.b dX8_clause_104 rfl ?_
              refine z_isubN hE (by omega) dX8_clause_105 ?_
              have hB := zB_perm hB (List.Perm.append_left _ (List.perm_append_comm_assoc _ _ _))
              have hB := zB_perm hB (List.perm_append_comm_assoc _ _ _)
              exact z_iret (v := (nI ((C + 1) - 1))) (ws := xW g x9 d rr im tx (nI ln) ab be (A 3 0) (A 3 1) (A 3 2) tb ib ++ (lW g d da (nI T) (nI (C + 1)) (nI (uK U + 1)) (nI V) rd ro (va_up lw C (some q_29)) (plK lw pl U) (pcK pc U C) gv aw nt ++ ([(q_29, bE k ac fr ti w)] ++ (Y ++ X)))) hE hB hr (⟨(by unfold clauseR; rw [if_pos (show clauseOK (nI k) ac fr ti w = true by rw [cl_ok]; simp [c_3, c_8, c_13, c_18, c_23]), if_neg (by omega)]; rw [Nat.add_sub_cancel]), lS_i (A1 := updA A 0 (nCl (nKeep (A 0) U C) C (nI k) ac fr ti w)) T (C + 1) (uK U + 1) V rd ro (va_up lw C (some q_29)) (plK lw pl U) (pcK pc U C) gv aw nt ([(q_29, bE k ac fr ti w)] ++ Y) (by unfold clauseA; rw [if_pos (show clauseOK (nI k) ac fr ti w = true by rw [cl_ok]; simp [c_3, c_8, c_13, c_18, c_23]), if_neg (by omega)]) rfl (nOK_cl (nOK_keep hn) (by omega)) (relL_clause (relL_in (relL_keep hrel hn) (fun _ h => List.mem_append_right _ h)) hT6 (by omega) (by omega) (List.mem_append_left _ (List.mem_singleton.mpr rfl))) (fun _ h => List.mem_append_right _ h)⟩) dX8_clause_106
            · refine lv_aload_n hE.x hE.b dX8_clause_68 rfl (lv_at hl 0 rfl) ?_
              refine z_qi hB (z_cV hE hB (c_X8_full l g x9 d rr im tx (nI ln) ab be (A 3 0) (A 3 1) (A 3 2) tb ib (lW g d da (nI T) (nI C) (nI U) (nI V) rd ro lw pl pc gv aw nt ++ (Y ++ X))) q1_130 kX8_full ⟨rfl, rfl⟩ ⟨Nat.le_of_ble_eq_true rfl, Nat.le_of_ble_eq_true rfl⟩ 0 rfl rfl rfl hl.1 rfl (Nat.le_of_ble_eq_true rfl) dX8_clause_69 ⟨Nat.le_of_ble_eq_true rfl, Nat.le_of_ble_eq_true rfl⟩) (fun r_32 w_33 H locs hw hB => ?_)
              obtain ⟨hr9, hw9⟩ := hw
              have hr9 := hr9.symm
              subst hr9
              have hw9 := hw9.symm
              subst hw9
              refine W.widen (k := 1) (n := 5) (by omega) (by omega) ?_
              exact z_iret (v := (-4)) (ws := xW g x9 d rr im tx (nI ln) ab be (A 3 0) (A 3 1) ((A 3 2) + nI 1) tb ib ++ (lW g d da (nI T) (nI C) (nI U) (nI V) rd ro lw pl pc gv aw nt ++ (Y ++ X))) hE hB hr (⟨(by unfold clauseR; rw [if_pos (show clauseOK (nI k) ac fr ti w = true by rw [cl_ok]; simp [c_3, c_8, c_13, c_18, c_23]), if_pos (by omega)]), lS_i (A1 := bump 2 A) T C U V rd ro lw pl pc gv aw nt Y (by unfold clauseA; rw [if_pos (show clauseOK (nI k) ac fr ti w = true by rw [cl_ok]; simp [c_3, c_8, c_13, c_18, c_23]), if_pos (by omega)]) rfl hn hrel (fun _ h => h)⟩) dX8_clause_72
          · refine lv_aload_n hE.x hE.b dX8_clause_49 rfl (lv_at hl 0 rfl) ?_
            refine lv_bipush (v := (-2)) hE.x hE.b dX8_clause_50 rfl ?_
            refine z_qi hB (z_cV hE hB (c_X8_bad l g x9 d rr im tx (nI ln) ab be (A 3 0) (A 3 1) (A 3 2) tb ib (-2) (lW g d da (nI T) (nI C) (nI U) (nI V) rd ro lw pl pc gv aw nt ++ (Y ++ X))) q1_126 kX8_bad ⟨rfl, rfl⟩ ⟨Nat.le_of_ble_eq_true rfl, Nat.le_of_ble_eq_true rfl⟩ 0 rfl rfl rfl hl.1 rfl (Nat.le_of_ble_eq_true rfl) dX8_clause_52 ⟨Nat.le_of_ble_eq_true rfl, Nat.le_of_ble_eq_true rfl⟩) (fun r_34 w_35 H locs hw hB => ?_)
            obtain ⟨hr9, hw9⟩ := hw
            have hr9 := hr9.symm
            subst hr9
            have hw9 := hw9.symm
            subst hw9
            refine W.widen (k := 1) (n := 5) (by omega) (by omega) ?_
            exact z_iret (v := (-2)) (ws := xW g x9 d rr im tx (nI ln) ab be ((A 3 0) + nI 1) (A 3 1) (A 3 2) tb ib ++ (lW g d da (nI T) (nI C) (nI U) (nI V) rd ro lw pl pc gv aw nt ++ (Y ++ X))) hE hB hr (⟨(by unfold clauseR; rw [if_neg (show ¬ clauseOK kk ac fr ti w = true by rw [cl_ok]; simp [c_3, c_8, c_13, c_18, c_23])]), lS_i (A1 := bump 0 A) T C U V rd ro lw pl pc gv aw nt Y (by unfold clauseA; rw [if_neg (show ¬ clauseOK kk ac fr ti w = true by rw [cl_ok]; simp [c_3, c_8, c_13, c_18, c_23])]) rfl hn hrel (fun _ h => h)⟩) dX8_clause_55

set_option maxHeartbeats 4000000 in
set_option maxRecDepth 100000 in
theorem c_X8_strike (l : Launch) (g : zG) (x9 : Nat) (d : Nat) (rr : Nat) (im : Nat) (tx : Nat) (ab : Int32) (be : Int32) (tb : Nat → Int32) (ib : Nat → Option Nat) (da : Nat → Nat) (T : Nat) (C : Nat) (U : Nat) (V : Nat) (rd : Nat → Int32) (ro : Nat → Int32) (lw : Nat → Option Nat) (pl : Nat → Option Nat) (pc : Nat → Int32) (gv : Nat → Int32) (aw : Nat → Int32) (nt : Nat → Int32) (A : Nat → Nat → Int32) (ln : Nat) (x : Int32) (Y : va_W) (X : va_W) (hn : nOK (A 0) T C V U) (hrel : relL (A 0) T C U V rd ro lw pl pc gv Y) : Met l yX8_strike (Cond.code yX8_strike cX8_strike 2 (some .int) :: TBL) { frames := 2, cells := 0, slots := 0, locals := 84 } (zPc [.ref x9, .int x] g (xW g x9 d rr im tx (nI ln) ab be (A 3 0) (A 3 1) (A 3 2) tb ib ++ (lW g d da (nI T) (nI C) (nI U) (nI V) rd ro lw pl pc gv aw nt ++ (Y ++ X)))) (zQi g (fun r ws => r = (strikeR C x) ∧ lS g x9 d da rr im tx (strikeA A C U x) ln ab be tb ib Y X ws)) 0 0 (zA (gz g)) := by
  refine z_start (by decide +kernel) rfl (Nat.le_of_ble_eq_true rfl) ?_
  intro p e s m args below meth c ls hE hr hnm hB hl
  have hl : lv_has ls 2 [(0, .ref x9), (1, .int x)] := hl
  revert hB
  generalize s.heap = H
  generalize ([] : List Loc) = locs
  intro hB
  have hT6 := hn.T6
  have hC8 := hn.C8
  have hV8 := hn.V8
  have hU8 := hn.U8
  refine lv_iload_n hE.x hE.b dX8_strike_0 rfl (lv_at hl 1 rfl) ?_
  refine lv_iconst (v := nI 0) hE.x hE.b dX8_strike_1 rfl ?_
  refine lv_aload_n hE.x hE.b dX8_strike_2 rfl (lv_at hl 0 rfl) ?_
  refine z_get (v := .ref d) hE hB inX8 0 rfl rfl 0 (by decide) q1_79 (fun _ h9 => h9) rfl dX8_strike_3 ?_
  refine z_get (v := .int (nI C)) hE hB inX4 3 rfl rfl 1 (by decide) q1_37 (fun _ h9 => h9) rfl dX8_strike_6 ?_
  refine lv_iconst (v := nI 1) hE.x hE.b dX8_strike_9 rfl ?_
  refine lv_isub hE.x hE.b dX8_strike_10 ?_
  obtain ⟨tm, htm, etm⟩ : ∃ z : Int32, z.toInt = (C : Int) - 1 ∧ nI C - nI 1 = z := ⟨_, sub1_toInt (by omega), rfl⟩
  refine z_top (y := tm) etm ?_
  refine z_qi hB (z_cS hE hB (c_X8_within l g x (nI 0) tm x.toInt (0 : Int) ((C : Int) - 1) (xW g x9 d rr im tx (nI ln) ab be (A 3 0) (A 3 1) (A 3 2) tb ib ++ (lW g d da (nI T) (nI C) (nI U) (nI V) rd ro lw pl pc gv aw nt ++ (Y ++ X))) rfl rfl htm) q1_123 kX8_within ⟨rfl, rfl⟩ ⟨Nat.le_of_ble_eq_true rfl, Nat.le_of_ble_eq_true rfl⟩ rfl hl.1 rfl (Nat.le_of_ble_eq_true rfl) dX8_strike_11 ⟨Nat.le_of_ble_eq_true rfl, Nat.le_of_ble_eq_true rfl⟩) (fun r_1 w_2 H locs hw hB => ?_)
  obtain ⟨hr9, hw9⟩ := hw
  have hr9 := hr9.symm
  subst hr9
  have hw9 := hw9.symm
  subst hw9
  refine z_bt (b := (inZ (0 : Int) ((C : Int) - 1) x.toInt)) (tgt := 24) hE dX8_strike_14 (by decide) (fun c_3 => ?_) (fun c_3 => ?_)
  · obtain ⟨i, hi, rfl⟩ := pTown_nI (T := C) (x := x) (st_ok.trans c_3) (by omega)
    refine lv_aload_n hE.x hE.b dX8_strike_24 rfl (lv_at hl 0 rfl) ?_
    refine z_get (v := .ref d) hE hB inX8 0 rfl rfl 0 (by decide) q1_79 (fun _ h9 => h9) rfl dX8_strike_25 ?_
    have hB := zB_perm hB (List.perm_append_comm_assoc _ _ _)
    refine z_qv hB (z_cV hE hB (c_X4_remember l g d da T C U V rd ro lw pl pc gv aw nt (A 0) Y (xW g x9 d rr im tx (nI ln) ab be (A 3 0) (A 3 1) (A 3 2) tb ib ++ (Y ++ X)) hn hrel (fun _ h => List.mem_append_right _ (List.mem_append_left _ h))) q1_158 kX4_remember ⟨rfl, rfl⟩ ⟨Nat.le_of_ble_eq_true rfl, Nat.le_of_ble_eq_true rfl⟩ 0 rfl rfl rfl hl.1 rfl (Nat.le_of_ble_eq_true rfl) dX8_strike_28 ⟨Nat.le_of_ble_eq_true rfl, Nat.le_of_ble_eq_true rfl⟩) (fun w_5 H locs hw hB => ?_)
    have hw9 := hw
    have hw9 := hw9.symm
    subst hw9
    refine lv_aload_n hE.x hE.b dX8_strike_31 rfl (lv_at hl 0 rfl) ?_
    refine z_get (v := .ref d) hE hB inX8 9 rfl rfl 0 (by decide) q1_79 (fun _ h9 => h9) rfl dX8_strike_32 ?_
    refine lv_iload_n hE.x hE.b dX8_strike_35 rfl (lv_at hl 1 rfl) ?_
    refine z_qv hB (z_cV hE hB (c_X4_dropClause l g d da T C (uK U + 1) V rd ro lw (plK lw pl U) (pcK pc U C) gv aw nt i (nKeep (A 0) U C) Y (xW g x9 d rr im tx (nI ln) ab be (A 3 0) (A 3 1) (A 3 2) tb ib ++ (Y ++ X)) (nOK_keep hn) (relL_keep hrel hn) (fun _ h => List.mem_append_right _ (List.mem_append_left _ h)) (by omega)) q2_37 kX4_dropClause ⟨rfl, rfl⟩ ⟨Nat.le_of_ble_eq_true rfl, Nat.le_of_ble_eq_true rfl⟩ 0 rfl rfl rfl hl.1 rfl (Nat.le_of_ble_eq_true rfl) dX8_strike_36 ⟨Nat.le_of_ble_eq_true rfl, Nat.le_of_ble_eq_true rfl⟩) (fun w_7 H locs hw hB => ?_)
    have hw9 := hw
    have hw9 := hw9.symm
    subst hw9
    refine lv_aload_n hE.x hE.b dX8_strike_39 rfl (lv_at hl 0 rfl) ?_
    refine z_get (v := .ref d) hE hB inX8 9 rfl rfl 0 (by decide) q1_79 (fun _ h9 => h9) rfl dX8_strike_40 ?_
    refine z_get (v := .int (nI (C - 1))) hE hB inX4 0 rfl rfl 1 (by decide) q1_37 (fun _ h9 => h9) rfl dX8_strike_43 ?_
    have hB := zB_perm hB (List.perm_append_comm_assoc _ _ _)
    exact z_iret (v := (nI (C - 1))) (ws := xW g x9 d rr im tx (nI ln) ab be (A 3 0) (A 3 1) (A 3 2) tb ib ++ (lW g d da (nI T) (nI (C - 1)) (nI (uK U + 1)) (nI V) rd ro (va_cpy lw lw (i + 1) i (C - i - 1)) (plK lw pl U) (pcK pc U C) gv aw nt ++ (Y ++ X))) hE hB hr (⟨(by unfold strikeR; rw [if_pos (show pTown C (nI i) = true from st_ok.trans c_3)]), lS_i (A1 := updA A 0 (nStrike (nKeep (A 0) U C) C (rc (nI i)))) T (C - 1) (uK U + 1) V rd ro (va_cpy lw lw (i + 1) i (C - i - 1)) (plK lw pl U) (pcK pc U C) gv aw nt Y (by unfold strikeA; rw [if_pos (show pTown C (nI i) = true from st_ok.trans c_3)]) rfl (nOK_strike (nOK_keep hn)) (by rw [rc_i (by omega)]; exact relL_strike (relL_keep hrel hn) hT6 hC8 (by omega)) (fun _ h => h)⟩) dX8_strike_46
  · refine lv_aload_n hE.x hE.b dX8_strike_17 rfl (lv_at hl 0 rfl) ?_
    refine lv_bipush (v := (-2)) hE.x hE.b dX8_strike_18 rfl ?_
    refine z_qi hB (z_cV hE hB (c_X8_bad l g x9 d rr im tx (nI ln) ab be (A 3 0) (A 3 1) (A 3 2) tb ib (-2) (lW g d da (nI T) (nI C) (nI U) (nI V) rd ro lw pl pc gv aw nt ++ (Y ++ X))) q1_126 kX8_bad ⟨rfl, rfl⟩ ⟨Nat.le_of_ble_eq_true rfl, Nat.le_of_ble_eq_true rfl⟩ 0 rfl rfl rfl hl.1 rfl (Nat.le_of_ble_eq_true rfl) dX8_strike_20 ⟨Nat.le_of_ble_eq_true rfl, Nat.le_of_ble_eq_true rfl⟩) (fun r_8 w_9 H locs hw hB => ?_)
    obtain ⟨hr9, hw9⟩ := hw
    have hr9 := hr9.symm
    subst hr9
    have hw9 := hw9.symm
    subst hw9
    exact z_iret (v := (-2)) (ws := xW g x9 d rr im tx (nI ln) ab be ((A 3 0) + nI 1) (A 3 1) (A 3 2) tb ib ++ (lW g d da (nI T) (nI C) (nI U) (nI V) rd ro lw pl pc gv aw nt ++ (Y ++ X))) hE hB hr (⟨(by unfold strikeR; rw [if_neg (show ¬ pTown C x = true by rw [st_ok, c_3]; decide)]), lS_i (A1 := bump 0 A) T C U V rd ro lw pl pc gv aw nt Y (by unfold strikeA; rw [if_neg (show ¬ pTown C x = true by rw [st_ok, c_3]; decide)]) rfl hn hrel (fun _ h => h)⟩) dX8_strike_23

set_option maxHeartbeats 4000000 in
set_option maxRecDepth 100000 in
theorem c_X8_undo (l : Launch) (g : zG) (x9 : Nat) (d : Nat) (rr : Nat) (im : Nat) (tx : Nat) (ab : Int32) (be : Int32) (tb : Nat → Int32) (ib : Nat → Option Nat) (da : Nat → Nat) (T : Nat) (C : Nat) (U : Nat) (V : Nat) (rd : Nat → Int32) (ro : Nat → Int32) (lw : Nat → Option Nat) (pl : Nat → Option Nat) (pc : Nat → Int32) (gv : Nat → Int32) (aw : Nat → Int32) (nt : Nat → Int32) (A : Nat → Nat → Int32) (ln : Nat) (Y : va_W) (X : va_W) (hn : nOK (A 0) T C V U) (hrel : relL (A 0) T C U V rd ro lw pl pc gv Y) : Met l yX8_undo (Cond.code yX8_undo cX8_undo 1 (some .int) :: TBL) { frames := 2, cells := 0, slots := 0, locals := 45 } (zPc [.ref x9] g (xW g x9 d rr im tx (nI ln) ab be (A 3 0) (A 3 1) (A 3 2) tb ib ++ (lW g d da (nI T) (nI C) (nI U) (nI V) rd ro lw pl pc gv aw nt ++ (Y ++ X)))) (zQi g (fun r ws => r = (undoR (A 0) U) ∧ lS g x9 d da rr im tx (undoA A U) ln ab be tb ib Y X ws)) 0 0 (zA (gz g)) := by
  refine z_start (by decide +kernel) rfl (Nat.le_of_ble_eq_true rfl) ?_
  intro p e s m args below meth c ls hE hr hnm hB hl
  have hl : lv_has ls 1 [(0, .ref x9)] := hl
  revert hB
  generalize s.heap = H
  generalize ([] : List Loc) = locs
  intro hB
  have hT6 := hn.T6
  have hC8 := hn.C8
  have hV8 := hn.V8
  have hU8 := hn.U8
  refine lv_aload_n hE.x hE.b dX8_undo_0 rfl (lv_at hl 0 rfl) ?_
  refine z_get (v := .ref d) hE hB inX8 0 rfl rfl 0 (by decide) q1_79 (fun _ h9 => h9) rfl dX8_undo_1 ?_
  refine z_get (v := .int (nI U)) hE hB inX4 3 rfl rfl 2 (by decide) q1_40 (fun _ h9 => h9) rfl dX8_undo_4 ?_
  refine z_gt0 (tgt := 15) (X := ((U : Nat) : Int)) hE dX8_undo_7 (by decide) (nI_toInt (n := U) (by omega)) (fun c_1 => ?_) (fun c_1 => ?_)
  · obtain ⟨c1, hc1, ec1⟩ := hn.P (U - 1) (by omega)
    refine lv_aload_n hE.x hE.b dX8_undo_15 rfl (lv_at hl 0 rfl) ?_
    refine z_get (v := .ref d) hE hB inX8 0 rfl rfl 0 (by decide) q1_79 (fun _ h9 => h9) rfl dX8_undo_16 ?_
    have hB := zB_perm hB (List.perm_append_comm_assoc _ _ _)
    refine z_qv hB (z_cV hE hB (c_X4_goBack l g d da T C U V rd ro lw pl pc gv aw nt c1 (A 0) Y (xW g x9 d rr im tx (nI ln) ab be (A 3 0) (A 3 1) (A 3 2) tb ib ++ (Y ++ X)) hn hrel (fun _ h => List.mem_append_right _ (List.mem_append_left _ h)) (by omega) ((hrel.2.2.2.2.1 (U - 1) (by omega)).1.trans ec1)) q2_49 kX4_goBack ⟨rfl, rfl⟩ ⟨Nat.le_of_ble_eq_true rfl, Nat.le_of_ble_eq_true rfl⟩ 0 rfl rfl rfl hl.1 rfl (Nat.le_of_ble_eq_true rfl) dX8_undo_19 ⟨Nat.le_of_ble_eq_true rfl, Nat.le_of_ble_eq_true rfl⟩) (fun w_3 H locs hw hB => ?_)
    have hw9 := hw
    have hw9 := hw9.symm
    subst hw9
    refine lv_aload_n hE.x hE.b dX8_undo_22 rfl (lv_at hl 0 rfl) ?_
    refine z_get (v := .ref d) hE hB inX8 9 rfl rfl 0 (by decide) q1_79 (fun _ h9 => h9) rfl dX8_undo_23 ?_
    refine z_get (v := .int (nI c1)) hE hB inX4 0 rfl rfl 1 (by decide) q1_37 (fun _ h9 => h9) rfl dX8_undo_26 ?_
    have hB := zB_perm hB (List.perm_append_comm_assoc _ _ _)
    exact z_iret (v := (nI c1)) (ws := xW g x9 d rr im tx (nI ln) ab be (A 3 0) (A 3 1) (A 3 2) tb ib ++ (lW g d da (nI T) (nI c1) (nI (U - 1)) (nI V) rd ro (va_cpy pl lw ((U - 1) * 8) 0 8) pl pc gv aw nt ++ (Y ++ X))) hE hB hr (⟨(by unfold undoR; rw [if_neg (by omega)]; rw [ec1]), lS_i (A1 := updA A 0 (nUndo (A 0) U)) T c1 (U - 1) V rd ro (va_cpy pl lw ((U - 1) * 8) 0 8) pl pc gv aw nt Y (by unfold undoA; rw [if_neg (by omega)]) rfl (nOK_undo hn (by omega) ec1 hc1) (relL_undo hrel hT6 hV8 (by omega) hU8 ec1 hc1) (fun _ h => h)⟩) dX8_undo_29
  · refine lv_aload_n hE.x hE.b dX8_undo_10 rfl (lv_at hl 0 rfl) ?_
    refine z_qi hB (z_cV hE hB (c_X8_no l g x9 d rr im tx (nI ln) ab be (A 3 0) (A 3 1) (A 3 2) tb ib (lW g d da (nI T) (nI C) (nI U) (nI V) rd ro lw pl pc gv aw nt ++ (Y ++ X))) q2_45 kX8_no ⟨rfl, rfl⟩ ⟨Nat.le_of_ble_eq_true rfl, Nat.le_of_ble_eq_true rfl⟩ 0 rfl rfl rfl hl.1 rfl (Nat.le_of_ble_eq_true rfl) dX8_undo_11 ⟨Nat.le_of_ble_eq_true rfl, Nat.le_of_ble_eq_true rfl⟩) (fun r_4 w_5 H locs hw hB => ?_)
    obtain ⟨hr9, hw9⟩ := hw
    have hr9 := hr9.symm
    subst hr9
    have hw9 := hw9.symm
    subst hw9
    exact z_iret (v := (-3)) (ws := xW g x9 d rr im tx (nI ln) ab be (A 3 0) ((A 3 1) + nI 1) (A 3 2) tb ib ++ (lW g d da (nI T) (nI C) (nI U) (nI V) rd ro lw pl pc gv aw nt ++ (Y ++ X))) hE hB hr (⟨(by unfold undoR; rw [if_pos (by omega)]), lS_i (A1 := bump 1 A) T C U V rd ro lw pl pc gv aw nt Y (by unfold undoA; rw [if_pos (by omega)]) rfl hn hrel (fun _ h => h)⟩) dX8_undo_14

set_option maxHeartbeats 4000000 in
set_option maxRecDepth 100000 in
theorem c_X8_type (l : Launch) (g : zG) (x9 : Nat) (d : Nat) (rr : Nat) (im : Nat) (tx : Nat) (ab : Int32) (be : Int32) (tb : Nat → Int32) (ib : Nat → Option Nat) (da : Nat → Nat) (T : Nat) (C : Nat) (U : Nat) (V : Nat) (rd : Nat → Int32) (ro : Nat → Int32) (lw : Nat → Option Nat) (pl : Nat → Option Nat) (pc : Nat → Int32) (gv : Nat → Int32) (aw : Nat → Int32) (nt : Nat → Int32) (A : Nat → Nat → Int32) (ln : Nat) (c9 : Int32) (Y : va_W) (X : va_W) (hn : nOK (A 0) T C V U) (hrel : relL (A 0) T C U V rd ro lw pl pc gv Y) (hl150 : ln ≤ 150) : Met l yX8_type (Cond.code yX8_type cX8_type 2 (some .int) :: TBL) { frames := 1, cells := 0, slots := 0, locals := 22 } (zPc [.ref x9, .int c9] g (xW g x9 d rr im tx (nI ln) ab be (A 3 0) (A 3 1) (A 3 2) tb ib ++ (lW g d da (nI T) (nI C) (nI U) (nI V) rd ro lw pl pc gv aw nt ++ (Y ++ X)))) (zQi g (fun r ws => r = (typeR ln c9) ∧ lS g x9 d da rr im tx (typeA A ln c9) (typeN ln c9) ab be (typeT tb ln c9) ib Y X ws)) 0 0 (zA (gz g)) := by
  refine z_start (by decide +kernel) rfl (Nat.le_of_ble_eq_true rfl) ?_
  intro p e s m args below meth c ls hE hr hnm hB hl
  have hl : lv_has ls 2 [(0, .ref x9), (1, .int c9)] := hl
  revert hB
  generalize s.heap = H
  generalize ([] : List Loc) = locs
  intro hB
  have hT6 := hn.T6
  have hC8 := hn.C8
  have hV8 := hn.V8
  have hU8 := hn.U8
  refine lv_iload_n hE.x hE.b dX8_type_0 rfl (lv_at hl 1 rfl) ?_
  refine lv_iconst (v := nI 0) hE.x hE.b dX8_type_1 rfl ?_
  refine lv_bipush (v := (nI 127)) hE.x hE.b dX8_type_2 rfl ?_
  refine z_qi hB (z_cS hE hB (c_X8_within l g c9 (nI 0) (nI 127) c9.toInt (0 : Int) (127 : Int) (xW g x9 d rr im tx (nI ln) ab be (A 3 0) (A 3 1) (A 3 2) tb ib ++ (lW g d da (nI T) (nI C) (nI U) (nI V) rd ro lw pl pc gv aw nt ++ (Y ++ X))) rfl rfl rfl) q1_123 kX8_within ⟨rfl, rfl⟩ ⟨Nat.le_of_ble_eq_true rfl, Nat.le_of_ble_eq_true rfl⟩ rfl hl.1 rfl (Nat.le_of_ble_eq_true rfl) dX8_type_4 ⟨Nat.le_of_ble_eq_true rfl, Nat.le_of_ble_eq_true rfl⟩) (fun r_1 w_2 H locs hw hB => ?_)
  obtain ⟨hr9, hw9⟩ := hw
  have hr9 := hr9.symm
  subst hr9
  have hw9 := hw9.symm
  subst hw9
  refine z_bt (b := (inZ (0 : Int) (127 : Int) c9.toInt)) (tgt := 17) hE dX8_type_7 (by decide) (fun c_3 => ?_) (fun c_3 => ?_)
  · refine lv_aload_n hE.x hE.b dX8_type_17 rfl (lv_at hl 0 rfl) ?_
    refine z_get (v := .int (nI ln)) hE hB inX8 0 rfl rfl 4 (by decide) q1_83 (fun _ h9 => h9) rfl dX8_type_18 ?_
    refine lv_sipush (v := (nI 150)) hE.x hE.b dX8_type_21 rfl ?_
    refine z_lt (tgt := 32) (X := ((ln : Nat) : Int)) (Y := (150 : Int)) hE dX8_type_24 (by decide) (nI_toInt (n := ln) (by omega)) rfl (fun c_4 => ?_) (fun c_4 => ?_)
    · obtain ⟨k, hk, rfl⟩ := pIn_nI (hi := 127) (x := c9) c_3 (by omega)
      refine lv_aload_n hE.x hE.b dX8_type_32 rfl (lv_at hl 0 rfl) ?_
      refine z_get (v := .ref tx) hE hB inX8 0 rfl rfl 3 (by decide) q1_82 (fun _ h9 => h9) rfl dX8_type_33 ?_
      refine lv_aload_n hE.x hE.b dX8_type_36 rfl (lv_at hl 0 rfl) ?_
      refine z_get (v := .int (nI ln)) hE hB inX8 0 rfl rfl 4 (by decide) q1_83 (fun _ h9 => h9) rfl dX8_type_37 ?_
      refine lv_iload_n hE.x hE.b dX8_type_40 rfl (lv_at hl 1 rfl) ?_
      refine lv_i2b hE.x hE.b dX8_type_41 rfl ?_
      refine z_top (y := (nI k)) (i2b_k k (by omega)) ?_
      refine z_bast (k := ln) (f := tb) (x := (nI k)) (ws' := xW g x9 d rr im tx (nI ln) ab be (A 3 0) (A 3 1) (A 3 2) (upd tb ln (nI k)) ib ++ (lW g d da (nI T) (nI C) (nI U) (nI V) rd ro lw pl pc gv aw nt ++ (Y ++ X))) hE hB 1 rfl (by omega) (by decide) (nar_k k (by omega)) rfl dX8_type_42 (fun H locs hB => ?_)
      refine lv_aload_n hE.x hE.b dX8_type_43 rfl (lv_at hl 0 rfl) ?_
      refine lv_dup hE.x hE.b dX8_type_44 rfl ?_
      refine z_get (v := .int (nI ln)) hE hB inX8 0 rfl rfl 4 (by decide) q1_83 (fun _ h9 => h9) rfl dX8_type_45 ?_
      refine lv_iconst (v := nI 1) hE.x hE.b dX8_type_48 rfl ?_
      refine z_iaddN hE dX8_type_49 ?_
      refine z_put (v := .int (nI (ln + 1))) (ty := .int) (ws' := xW g x9 d rr im tx (nI (ln + 1)) ab be (A 3 0) (A 3 1) (A 3 2) (upd tb ln (nI k)) ib ++ (lW g d da (nI T) (nI C) (nI U) (nI V) rd ro lw pl pc gv aw nt ++ (Y ++ X))) hE hB inX8 tyX8 tyX8_ok nmX8 0 rfl rfl 4 (by decide) q1_83 (fun _ h9 => h9) rfl (by decide +kernel) rfl rfl (Nat.le_of_ble_eq_true rfl) rfl dX8_type_50 (fun H locs hB => ?_)
      refine lv_aload_n hE.x hE.b dX8_type_53 rfl (lv_at hl 0 rfl) ?_
      refine z_get (v := .int (nI (ln + 1))) hE hB inX8 0 rfl rfl 4 (by decide) q1_83 (fun _ h9 => h9) rfl dX8_type_54 ?_
      exact z_iret (v := (nI (ln + 1))) (ws := xW g x9 d rr im tx (nI (ln + 1)) ab be (A 3 0) (A 3 1) (A 3 2) (upd tb ln (nI k)) ib ++ (lW g d da (nI T) (nI C) (nI U) (nI V) rd ro lw pl pc gv aw nt ++ (Y ++ X))) hE hB hr (⟨(by unfold typeR; rw [if_pos (show pIn 0 127 (nI k) = true from c_3), if_neg (by omega)]), lS_i (A1 := updA A 5 (upd (A 5) ln (nI k))) T C U V rd ro lw pl pc gv aw nt Y (by unfold typeA; rw [if_pos (show pIn 0 127 (nI k) = true from c_3), if_neg (by omega)]) (by rw [(typ_2 (tb := tb) (ln := ln) c_3 (by omega)).1, (typ_2 (tb := tb) (ln := ln) c_3 (by omega)).2]; rfl) hn hrel (fun _ h => h)⟩) dX8_type_57
    · refine lv_aload_n hE.x hE.b dX8_type_27 rfl (lv_at hl 0 rfl) ?_
      refine z_qi hB (z_cV hE hB (c_X8_full l g x9 d rr im tx (nI ln) ab be (A 3 0) (A 3 1) (A 3 2) tb ib (lW g d da (nI T) (nI C) (nI U) (nI V) rd ro lw pl pc gv aw nt ++ (Y ++ X))) q1_130 kX8_full ⟨rfl, rfl⟩ ⟨Nat.le_of_ble_eq_true rfl, Nat.le_of_ble_eq_true rfl⟩ 0 rfl rfl rfl hl.1 rfl (Nat.le_of_ble_eq_true rfl) dX8_type_28 ⟨Nat.le_of_ble_eq_true rfl, Nat.le_of_ble_eq_true rfl⟩) (fun r_5 w_6 H locs hw hB => ?_)
      obtain ⟨hr9, hw9⟩ := hw
      have hr9 := hr9.symm
      subst hr9
      have hw9 := hw9.symm
      subst hw9
      exact z_iret (v := (-4)) (ws := xW g x9 d rr im tx (nI ln) ab be (A 3 0) (A 3 1) ((A 3 2) + nI 1) tb ib ++ (lW g d da (nI T) (nI C) (nI U) (nI V) rd ro lw pl pc gv aw nt ++ (Y ++ X))) hE hB hr (⟨(by unfold typeR; rw [if_pos (show pIn 0 127 c9 = true from c_3), if_pos (by omega)]), lS_i (A1 := bump 2 A) T C U V rd ro lw pl pc gv aw nt Y (by unfold typeA; rw [if_pos (show pIn 0 127 c9 = true from c_3), if_pos (by omega)]) (by rw [(typ_1 (tb := tb) (ln := ln) c_3 (by omega)).1, (typ_1 (tb := tb) (ln := ln) c_3 (by omega)).2]; rfl) hn hrel (fun _ h => h)⟩) dX8_type_31
  · refine lv_aload_n hE.x hE.b dX8_type_10 rfl (lv_at hl 0 rfl) ?_
    refine lv_bipush (v := (-2)) hE.x hE.b dX8_type_11 rfl ?_
    refine z_qi hB (z_cV hE hB (c_X8_bad l g x9 d rr im tx (nI ln) ab be (A 3 0) (A 3 1) (A 3 2) tb ib (-2) (lW g d da (nI T) (nI C) (nI U) (nI V) rd ro lw pl pc gv aw nt ++ (Y ++ X))) q1_126 kX8_bad ⟨rfl, rfl⟩ ⟨Nat.le_of_ble_eq_true rfl, Nat.le_of_ble_eq_true rfl⟩ 0 rfl rfl rfl hl.1 rfl (Nat.le_of_ble_eq_true rfl) dX8_type_13 ⟨Nat.le_of_ble_eq_true rfl, Nat.le_of_ble_eq_true rfl⟩) (fun r_7 w_8 H locs hw hB => ?_)
    obtain ⟨hr9, hw9⟩ := hw
    have hr9 := hr9.symm
    subst hr9
    have hw9 := hw9.symm
    subst hw9
    exact z_iret (v := (-2)) (ws := xW g x9 d rr im tx (nI ln) ab be ((A 3 0) + nI 1) (A 3 1) (A 3 2) tb ib ++ (lW g d da (nI T) (nI C) (nI U) (nI V) rd ro lw pl pc gv aw nt ++ (Y ++ X))) hE hB hr (⟨(by unfold typeR; rw [if_neg (show ¬ pIn 0 127 c9 = true by rw [show pIn 0 127 c9 = false from c_3]; decide)]), lS_i (A1 := bump 0 A) T C U V rd ro lw pl pc gv aw nt Y (by unfold typeA; rw [if_neg (show ¬ pIn 0 127 c9 = true by rw [show pIn 0 127 c9 = false from c_3]; decide)]) (by rw [(typ_0 (tb := tb) (ln := ln) c_3).1, (typ_0 (tb := tb) (ln := ln) c_3).2]; rfl) hn hrel (fun _ h => h)⟩) dX8_type_16

set_option maxHeartbeats 4000000 in
set_option maxRecDepth 100000 in
theorem c_X8_clear (l : Launch) (g : zG) (x9 : Nat) (d : Nat) (rr : Nat) (im : Nat) (tx : Nat) (ab : Int32) (be : Int32) (tb : Nat → Int32) (ib : Nat → Option Nat) (da : Nat → Nat) (T : Nat) (C : Nat) (U : Nat) (V : Nat) (rd : Nat → Int32) (ro : Nat → Int32) (lw : Nat → Option Nat) (pl : Nat → Option Nat) (pc : Nat → Int32) (gv : Nat → Int32) (aw : Nat → Int32) (nt : Nat → Int32) (A : Nat → Nat → Int32) (ln : Nat) (Y : va_W) (X : va_W) (hn : nOK (A 0) T C V U) (hrel : relL (A 0) T C U V rd ro lw pl pc gv Y) : Met l yX8_clear (Cond.code yX8_clear cX8_clear 2 (some .int) :: TBL) { frames := 0, cells := 0, slots := 0, locals := 0 } (zPc [.ref x9] g (xW g x9 d rr im tx (nI ln) ab be (A 3 0) (A 3 1) (A 3 2) tb ib ++ (lW g d da (nI T) (nI C) (nI U) (nI V) rd ro lw pl pc gv aw nt ++ (Y ++ X)))) (zQi g (fun r ws => r = (nI ln) ∧ lS g x9 d da rr im tx A 0 ab be tb ib Y X ws)) 0 0 (zA (gz g)) := by
  refine z_start (by decide +kernel) rfl (Nat.le_of_ble_eq_true rfl) ?_
  intro p e s m args below meth c ls hE hr hnm hB hl
  have hl : lv_has ls 2 [(0, .ref x9)] := hl
  revert hB
  generalize s.heap = H
  generalize ([] : List Loc) = locs
  intro hB
  have hT6 := hn.T6
  have hC8 := hn.C8
  have hV8 := hn.V8
  have hU8 := hn.U8
  refine lv_aload_n hE.x hE.b dX8_clear_0 rfl (lv_at hl 0 rfl) ?_
  refine z_get (v := .int (nI ln)) hE hB inX8 0 rfl rfl 4 (by decide) q1_83 (fun _ h9 => h9) rfl dX8_clear_1 ?_
  refine lv_istore_n (lv' := [(1, .int (nI ln)), (0, .ref x9)]) hE.x hE.b dX8_clear_4 rfl hl (by decide) rfl (fun ls hl => ?_)
  refine lv_aload_n hE.x hE.b dX8_clear_5 rfl (lv_at hl 1 rfl) ?_
  refine lv_iconst (v := nI 0) hE.x hE.b dX8_clear_6 rfl ?_
  refine z_put (v := .int (nI 0)) (ty := .int) (ws' := xW g x9 d rr im tx (nI 0) ab be (A 3 0) (A 3 1) (A 3 2) tb ib ++ (lW g d da (nI T) (nI C) (nI U) (nI V) rd ro lw pl pc gv aw nt ++ (Y ++ X))) hE hB inX8 tyX8 tyX8_ok nmX8 0 rfl rfl 4 (by decide) q1_83 (fun _ h9 => h9) rfl (by decide +kernel) rfl rfl (Nat.le_of_ble_eq_true rfl) rfl dX8_clear_7 (fun H locs hB => ?_)
  refine lv_iload_n hE.x hE.b dX8_clear_10 rfl (lv_at hl 0 rfl) ?_
  exact z_iret (v := (nI ln)) (ws := xW g x9 d rr im tx (nI 0) ab be (A 3 0) (A 3 1) (A 3 2) tb ib ++ (lW g d da (nI T) (nI C) (nI U) (nI V) rd ro lw pl pc gv aw nt ++ (Y ++ X))) hE hB hr (⟨rfl, lS_i (A1 := A) T C U V rd ro lw pl pc gv aw nt Y rfl rfl hn hrel (fun _ h => h)⟩) dX8_clear_11

set_option maxHeartbeats 4000000 in
set_option maxRecDepth 100000 in
theorem c_X8_leave (l : Launch) (g : zG) (x9 : Nat) (d : Nat) (rr : Nat) (im : Nat) (tx : Nat) (ab : Int32) (be : Int32) (tb : Nat → Int32) (ib : Nat → Option Nat) (da : Nat → Nat) (T : Nat) (C : Nat) (U : Nat) (V : Nat) (rd : Nat → Int32) (ro : Nat → Int32) (lw : Nat → Option Nat) (pl : Nat → Option Nat) (pc : Nat → Int32) (gv : Nat → Int32) (aw : Nat → Int32) (nt : Nat → Int32) (A : Nat → Nat → Int32) (ln : Nat) (tw : Int32) (ac : Int32) (dd : Int32) (dy : Int32) (sh : Int32) (Y : va_W) (X : va_W) (hn : nOK (A 0) T C V U) (hrel : relL (A 0) T C U V rd ro lw pl pc gv Y) : Met l yX8_leave (Cond.code yX8_leave cX8_leave 6 (some .int) :: TBL) { frames := 2, cells := 0, slots := 0, locals := 47 } (zPc [.ref x9, .int tw, .int ac, .int dd, .int dy, .int sh] g (xW g x9 d rr im tx (nI ln) ab be (A 3 0) (A 3 1) (A 3 2) tb ib ++ (lW g d da (nI T) (nI C) (nI U) (nI V) rd ro lw pl pc gv aw nt ++ (Y ++ X)))) (zQi g (fun r ws => r = (leaveR T V tw ac dd dy sh) ∧ lS g x9 d da rr im tx (leaveA A T V tw ac dd dy sh) ln ab be tb ib Y X ws)) 0 0 (zA (gz g)) := by
  refine z_start (by decide +kernel) rfl (Nat.le_of_ble_eq_true rfl) ?_
  intro p e s m args below meth c ls hE hr hnm hB hl
  have hl : lv_has ls 6 [(0, .ref x9), (1, .int tw), (2, .int ac), (3, .int dd), (4, .int dy), (5, .int sh)] := hl
  revert hB
  generalize s.heap = H
  generalize ([] : List Loc) = locs
  intro hB
  have hT6 := hn.T6
  have hC8 := hn.C8
  have hV8 := hn.V8
  have hU8 := hn.U8
  refine lv_aload_n hE.x hE.b dX8_leave_0 rfl (lv_at hl 0 rfl) ?_
  refine lv_iload_n hE.x hE.b dX8_leave_1 rfl (lv_at hl 1 rfl) ?_
  refine lv_iload_n hE.x hE.b dX8_leave_2 rfl (lv_at hl 2 rfl) ?_
  refine lv_iload_n hE.x hE.b dX8_leave_3 rfl (lv_at hl 3 rfl) ?_
  refine lv_iload hE.x hE.b dX8_leave_4 (lv_at hl 4 rfl) ?_
  refine lv_iload hE.x hE.b dX8_leave_6 (lv_at hl 5 rfl) ?_
  refine z_qi hB (z_cV hE hB (c_X8_isAsked l g x9 d rr im tx (nI ln) ab be (A 3 0) (A 3 1) (A 3 2) tb ib da T C U V rd ro lw pl pc gv aw nt tw ac dd dy sh (Y ++ X) (by omega)) q3_2 kX8_isAsked ⟨rfl, rfl⟩ ⟨Nat.le_of_ble_eq_true rfl, Nat.le_of_ble_eq_true rfl⟩ 0 rfl rfl rfl hl.1 rfl (Nat.le_of_ble_eq_true rfl) dX8_leave_8 ⟨Nat.le_of_ble_eq_true rfl, Nat.le_of_ble_eq_true rfl⟩) (fun r_1 w_2 H locs hw hB => ?_)
  obtain ⟨hr9, hw9⟩ := hw
  have hr9 := hr9.symm
  subst hr9
  have hw9 := hw9.symm
  subst hw9
  refine z_bt (b := (askOK T tw ac dd dy sh)) (tgt := 21) hE dX8_leave_11 (by decide) (fun c_3 => ?_) (fun c_3 => ?_)
  · refine lv_aload_n hE.x hE.b dX8_leave_21 rfl (lv_at hl 0 rfl) ?_
    refine z_get (v := .ref d) hE hB inX8 0 rfl rfl 0 (by decide) q1_79 (fun _ h9 => h9) rfl dX8_leave_22 ?_
    refine z_get (v := .int (nI V)) hE hB inX4 3 rfl rfl 3 (by decide) q1_42 (fun _ h9 => h9) rfl dX8_leave_25 ?_
    refine lv_bipush (v := (nI 8)) hE.x hE.b dX8_leave_28 rfl ?_
    refine z_lt (tgt := 38) (X := ((V : Nat) : Int)) (Y := (8 : Int)) hE dX8_leave_30 (by decide) (nI_toInt (n := V) (by omega)) rfl (fun c_4 => ?_) (fun c_4 => ?_)
    · obtain ⟨t, a1, d1, y1, z1, ht, ha1, hd1, hy1, hz1, rfl, rfl, rfl, rfl, rfl⟩ := ask_i c_3 hT6
      refine lv_aload_n hE.x hE.b dX8_leave_38 rfl (lv_at hl 0 rfl) ?_
      refine z_get (v := .ref d) hE hB inX8 0 rfl rfl 0 (by decide) q1_79 (fun _ h9 => h9) rfl dX8_leave_39 ?_
      refine lv_iload_n hE.x hE.b dX8_leave_42 rfl (lv_at hl 1 rfl) ?_
      refine lv_iload_n hE.x hE.b dX8_leave_43 rfl (lv_at hl 2 rfl) ?_
      refine lv_iload_n hE.x hE.b dX8_leave_44 rfl (lv_at hl 3 rfl) ?_
      refine lv_iload hE.x hE.b dX8_leave_45 (lv_at hl 4 rfl) ?_
      refine lv_iload hE.x hE.b dX8_leave_47 (lv_at hl 5 rfl) ?_
      have hB := zB_perm hB (List.perm_append_comm_assoc _ _ _)
      refine z_qv hB (z_cV hE hB (c_X4_addLeave l g d da T C U V rd ro lw pl pc gv aw nt (nI t) (nI a1) (nI d1) (nI y1) (nI z1) (xW g x9 d rr im tx (nI ln) ab be (A 3 0) (A 3 1) (A 3 2) tb ib ++ (Y ++ X)) (by omega)) q3_147 kX4_addLeave ⟨rfl, rfl⟩ ⟨Nat.le_of_ble_eq_true rfl, Nat.le_of_ble_eq_true rfl⟩ 0 rfl rfl rfl hl.1 rfl (Nat.le_of_ble_eq_true rfl) dX8_leave_49 ⟨Nat.le_of_ble_eq_true rfl, Nat.le_of_ble_eq_true rfl⟩) (fun w_6 H locs hw hB => ?_)
      have hw9 := hw
      have hw9 := hw9.symm
      subst hw9
      refine lv_aload_n hE.x hE.b dX8_leave_52 rfl (lv_at hl 0 rfl) ?_
      refine z_get (v := .ref d) hE hB inX8 9 rfl rfl 0 (by decide) q1_79 (fun _ h9 => h9) rfl dX8_leave_53 ?_
      refine z_get (v := .int (nI (V + 1))) hE hB inX4 0 rfl rfl 3 (by decide) q1_42 (fun _ h9 => h9) rfl dX8_leave_56 ?_
      refine lv_iconst (v := nI 1) hE.x hE.b dX8_leave_59 rfl ?_
      refine z_isubN hE (by omega) dX8_leave_60 ?_
      have hB := zB_perm hB (List.perm_append_comm_assoc _ _ _)
      exact z_iret (v := (nI ((V + 1) - 1))) (ws := xW g x9 d rr im tx (nI ln) ab be (A 3 0) (A 3 1) (A 3 2) tb ib ++ (lW g d da (nI T) (nI C) (nI U) (nI (V + 1)) rd ro lw pl pc (upd (upd (upd (upd (upd gv (5 * V) (nI t)) (5 * V + 1) (nI a1)) (5 * V + 2) (nI d1)) (5 * V + 3) (nI y1)) (5 * V + 4) (nI z1)) aw nt ++ (Y ++ X))) hE hB hr (⟨(by unfold leaveR; rw [if_pos c_3, if_neg (by omega)]; rw [Nat.add_sub_cancel]), lS_i (A1 := updA A 0 (nLv (A 0) V (nI t) (nI a1) (nI d1) (nI y1) (nI z1))) T C U (V + 1) rd ro lw pl pc (upd (upd (upd (upd (upd gv (5 * V) (nI t)) (5 * V + 1) (nI a1)) (5 * V + 2) (nI d1)) (5 * V + 3) (nI y1)) (5 * V + 4) (nI z1)) aw nt Y (by unfold leaveA; rw [if_pos c_3, if_neg (by omega)]) rfl (nOK_leave hn (by omega) (by omega) (by omega) (by omega) (by omega) (by omega)) (relL_leave hrel hT6 hC8 (by omega)) (fun _ h => h)⟩) dX8_leave_61
    · refine lv_aload_n hE.x hE.b dX8_leave_33 rfl (lv_at hl 0 rfl) ?_
      refine z_qi hB (z_cV hE hB (c_X8_full l g x9 d rr im tx (nI ln) ab be (A 3 0) (A 3 1) (A 3 2) tb ib (lW g d da (nI T) (nI C) (nI U) (nI V) rd ro lw pl pc gv aw nt ++ (Y ++ X))) q1_130 kX8_full ⟨rfl, rfl⟩ ⟨Nat.le_of_ble_eq_true rfl, Nat.le_of_ble_eq_true rfl⟩ 0 rfl rfl rfl hl.1 rfl (Nat.le_of_ble_eq_true rfl) dX8_leave_34 ⟨Nat.le_of_ble_eq_true rfl, Nat.le_of_ble_eq_true rfl⟩) (fun r_7 w_8 H locs hw hB => ?_)
      obtain ⟨hr9, hw9⟩ := hw
      have hr9 := hr9.symm
      subst hr9
      have hw9 := hw9.symm
      subst hw9
      exact z_iret (v := (-4)) (ws := xW g x9 d rr im tx (nI ln) ab be (A 3 0) (A 3 1) ((A 3 2) + nI 1) tb ib ++ (lW g d da (nI T) (nI C) (nI U) (nI V) rd ro lw pl pc gv aw nt ++ (Y ++ X))) hE hB hr (⟨(by unfold leaveR; rw [if_pos c_3, if_pos (by omega)]), lS_i (A1 := bump 2 A) T C U V rd ro lw pl pc gv aw nt Y (by unfold leaveA; rw [if_pos c_3, if_pos (by omega)]) rfl hn hrel (fun _ h => h)⟩) dX8_leave_37
  · refine lv_aload_n hE.x hE.b dX8_leave_14 rfl (lv_at hl 0 rfl) ?_
    refine lv_bipush (v := (-2)) hE.x hE.b dX8_leave_15 rfl ?_
    refine z_qi hB (z_cV hE hB (c_X8_bad l g x9 d rr im tx (nI ln) ab be (A 3 0) (A 3 1) (A 3 2) tb ib (-2) (lW g d da (nI T) (nI C) (nI U) (nI V) rd ro lw pl pc gv aw nt ++ (Y ++ X))) q1_126 kX8_bad ⟨rfl, rfl⟩ ⟨Nat.le_of_ble_eq_true rfl, Nat.le_of_ble_eq_true rfl⟩ 0 rfl rfl rfl hl.1 rfl (Nat.le_of_ble_eq_true rfl) dX8_leave_17 ⟨Nat.le_of_ble_eq_true rfl, Nat.le_of_ble_eq_true rfl⟩) (fun r_9 w_10 H locs hw hB => ?_)
    obtain ⟨hr9, hw9⟩ := hw
    have hr9 := hr9.symm
    subst hr9
    have hw9 := hw9.symm
    subst hw9
    exact z_iret (v := (-2)) (ws := xW g x9 d rr im tx (nI ln) ab be ((A 3 0) + nI 1) (A 3 1) (A 3 2) tb ib ++ (lW g d da (nI T) (nI C) (nI U) (nI V) rd ro lw pl pc gv aw nt ++ (Y ++ X))) hE hB hr (⟨(by unfold leaveR; rw [if_neg (by rw [c_3]; decide)]), lS_i (A1 := bump 0 A) T C U V rd ro lw pl pc gv aw nt Y (by unfold leaveA; rw [if_neg (by rw [c_3]; decide)]) rfl hn hrel (fun _ h => h)⟩) dX8_leave_20

set_option maxHeartbeats 4000000 in
set_option maxRecDepth 100000 in
theorem c_X8_burn (l : Launch) (g : zG) (x9 : Nat) (d : Nat) (rr : Nat) (im : Nat) (tx : Nat) (ab : Int32) (be : Int32) (tb : Nat → Int32) (ib : Nat → Option Nat) (da : Nat → Nat) (T : Nat) (C : Nat) (U : Nat) (V : Nat) (rd : Nat → Int32) (ro : Nat → Int32) (lw : Nat → Option Nat) (pl : Nat → Option Nat) (pc : Nat → Int32) (gv : Nat → Int32) (aw : Nat → Int32) (nt : Nat → Int32) (A : Nat → Nat → Int32) (ln : Nat) (Y : va_W) (X : va_W) (hn : nOK (A 0) T C V U) (hrel : relL (A 0) T C U V rd ro lw pl pc gv Y) : Met l yX8_burn (Cond.code yX8_burn cX8_burn 2 (some .int) :: TBL) { frames := 0, cells := 0, slots := 0, locals := 0 } (zPc [.ref x9] g (xW g x9 d rr im tx (nI ln) ab be (A 3 0) (A 3 1) (A 3 2) tb ib ++ (lW g d da (nI T) (nI C) (nI U) (nI V) rd ro lw pl pc gv aw nt ++ (Y ++ X)))) (zQi g (fun r ws => r = (nI V) ∧ lS g x9 d da rr im tx (updA A 0 (upd (A 0) 2 (nI 0))) ln ab be tb ib Y X ws)) 0 0 (zA (gz g)) := by
  refine z_start (by decide +kernel) rfl (Nat.le_of_ble_eq_true rfl) ?_
  intro p e s m args below meth c ls hE hr hnm hB hl
  have hl : lv_has ls 2 [(0, .ref x9)] := hl
  revert hB
  generalize s.heap = H
  generalize ([] : List Loc) = locs
  intro hB
  have hT6 := hn.T6
  have hC8 := hn.C8
  have hV8 := hn.V8
  have hU8 := hn.U8
  refine lv_aload_n hE.x hE.b dX8_burn_0 rfl (lv_at hl 0 rfl) ?_
  refine z_get (v := .ref d) hE hB inX8 0 rfl rfl 0 (by decide) q1_79 (fun _ h9 => h9) rfl dX8_burn_1 ?_
  refine z_get (v := .int (nI V)) hE hB inX4 3 rfl rfl 3 (by decide) q1_42 (fun _ h9 => h9) rfl dX8_burn_4 ?_
  refine lv_istore_n (lv' := [(1, .int (nI V)), (0, .ref x9)]) hE.x hE.b dX8_burn_7 rfl hl (by decide) rfl (fun ls hl => ?_)
  refine lv_aload_n hE.x hE.b dX8_burn_8 rfl (lv_at hl 1 rfl) ?_
  refine z_get (v := .ref d) hE hB inX8 0 rfl rfl 0 (by decide) q1_79 (fun _ h9 => h9) rfl dX8_burn_9 ?_
  refine lv_iconst (v := nI 0) hE.x hE.b dX8_burn_12 rfl ?_
  refine z_put (v := .int (nI 0)) (ty := .int) (ws' := xW g x9 d rr im tx (nI ln) ab be (A 3 0) (A 3 1) (A 3 2) tb ib ++ (lW g d da (nI T) (nI C) (nI U) (nI 0) rd ro lw pl pc gv aw nt ++ (Y ++ X))) hE hB inX4 tyX4 tyX4_ok nmX4 3 rfl rfl 3 (by decide) q1_42 (fun _ h9 => h9) rfl (by decide +kernel) rfl rfl (Nat.le_of_ble_eq_true rfl) rfl dX8_burn_13 (fun H locs hB => ?_)
  refine lv_iload_n hE.x hE.b dX8_burn_16 rfl (lv_at hl 0 rfl) ?_
  exact z_iret (v := (nI V)) (ws := xW g x9 d rr im tx (nI ln) ab be (A 3 0) (A 3 1) (A 3 2) tb ib ++ (lW g d da (nI T) (nI C) (nI U) (nI 0) rd ro lw pl pc gv aw nt ++ (Y ++ X))) hE hB hr (⟨rfl, lS_i (A1 := updA A 0 (upd (A 0) 2 (nI 0))) T C U 0 rd ro lw pl pc gv aw nt Y rfl rfl (nOK_burn hn) (relL_burn hrel) (fun _ h => h)⟩) dX8_burn_17

set_option maxHeartbeats 4000000 in
set_option maxRecDepth 100000 in
theorem c_X8_part (l : Launch) (g : zG) (x9 : Nat) (d : Nat) (rr : Nat) (im : Nat) (tx : Nat) (ab : Int32) (be : Int32) (tb : Nat → Int32) (ib : Nat → Option Nat) (da : Nat → Nat) (T : Nat) (C : Nat) (U : Nat) (V : Nat) (rd : Nat → Int32) (ro : Nat → Int32) (lw : Nat → Option Nat) (pl : Nat → Option Nat) (pc : Nat → Int32) (gv : Nat → Int32) (aw : Nat → Int32) (nt : Nat → Int32) (A : Nat → Nat → Int32) (ln : Nat) (L : Nat → Int64) (w : Int32) (Y : va_W) (X : va_W) (hn : nOK (A 0) T C V U) (hrel : relL (A 0) T C U V rd ro lw pl pc gv Y) (h4 : L 4 = ab.toInt64) (h5 : L 5 = be.toInt64) : Met l yX8_part (Cond.code yX8_part cX8_part 2 (some .long) :: TBL) { frames := 1, cells := 0, slots := 0, locals := 22 } (zPc [.ref x9, .int w] g (xW g x9 d rr im tx (nI ln) ab be (A 3 0) (A 3 1) (A 3 2) tb ib ++ (lW g d da (nI T) (nI C) (nI U) (nI V) rd ro lw pl pc gv aw nt ++ (Y ++ X)))) (zQl g (fun r ws => r = (partR L w) ∧ lS g x9 d da rr im tx (partA A w) ln ab be tb ib Y X ws)) 0 0 (zA (gz g)) := by
  refine z_start (by decide +kernel) rfl (Nat.le_of_ble_eq_true rfl) ?_
  intro p e s m args below meth c ls hE hr hnm hB hl
  have hl : lv_has ls 2 [(0, .ref x9), (1, .int w)] := hl
  revert hB
  generalize s.heap = H
  generalize ([] : List Loc) = locs
  intro hB
  have hT6 := hn.T6
  have hC8 := hn.C8
  have hV8 := hn.V8
  have hU8 := hn.U8
  refine lv_iload_n hE.x hE.b dX8_part_0 rfl (lv_at hl 1 rfl) ?_
  refine lv_iconst (v := nI 0) hE.x hE.b dX8_part_1 rfl ?_
  refine lv_iconst (v := nI 1) hE.x hE.b dX8_part_2 rfl ?_
  refine z_qi hB (z_cS hE hB (c_X8_within l g w (nI 0) (nI 1) w.toInt (0 : Int) (1 : Int) (xW g x9 d rr im tx (nI ln) ab be (A 3 0) (A 3 1) (A 3 2) tb ib ++ (lW g d da (nI T) (nI C) (nI U) (nI V) rd ro lw pl pc gv aw nt ++ (Y ++ X))) rfl rfl rfl) q1_123 kX8_within ⟨rfl, rfl⟩ ⟨Nat.le_of_ble_eq_true rfl, Nat.le_of_ble_eq_true rfl⟩ rfl hl.1 rfl (Nat.le_of_ble_eq_true rfl) dX8_part_3 ⟨Nat.le_of_ble_eq_true rfl, Nat.le_of_ble_eq_true rfl⟩) (fun r_1 w_2 H locs hw hB => ?_)
  obtain ⟨hr9, hw9⟩ := hw
  have hr9 := hr9.symm
  subst hr9
  have hw9 := hw9.symm
  subst hw9
  refine z_bt (b := (inZ (0 : Int) (1 : Int) w.toInt)) (tgt := 17) hE dX8_part_6 (by decide) (fun c_3 => ?_) (fun c_3 => ?_)
  · obtain ⟨k, hk, rfl⟩ := pIn_nI (hi := 1) (x := w) c_3 (by omega)
    refine lv_iload_n hE.x hE.b dX8_part_17 rfl (lv_at hl 1 rfl) ?_
    refine z_ne0 (tgt := 29) (X := ((k : Nat) : Int)) hE dX8_part_18 (by decide) (nI_toInt (n := k) (by omega)) (fun c_4 => ?_) (fun c_4 => ?_)
    · refine lv_aload_n hE.x hE.b dX8_part_29 rfl (lv_at hl 0 rfl) ?_
      refine z_get (v := .int be) hE hB inX8 0 rfl rfl 6 (by decide) q1_85 (fun _ h9 => h9) rfl dX8_part_30 ?_
      refine lv_i2l hE.x hE.b dX8_part_33 rfl ?_
      exact z_lret (v := (Int32.toInt64 be)) (ws := xW g x9 d rr im tx (nI ln) ab be (A 3 0) (A 3 1) (A 3 2) tb ib ++ (lW g d da (nI T) (nI C) (nI U) (nI V) rd ro lw pl pc gv aw nt ++ (Y ++ X))) hE hB hr (⟨(by unfold partR; rw [if_neg (show ¬ nI k = 0 by rw [show k = 1 by omega]; decide), if_pos (show nI k = nI 1 by rw [show k = 1 by omega]), h5]), lS_i (A1 := A) T C U V rd ro lw pl pc gv aw nt Y (by unfold partA; rw [if_neg (show ¬ nI k = 0 by rw [show k = 1 by omega]; decide), if_pos (show nI k = nI 1 by rw [show k = 1 by omega])]) rfl hn hrel (fun _ h => h)⟩) dX8_part_34
    · refine lv_aload_n hE.x hE.b dX8_part_21 rfl (lv_at hl 0 rfl) ?_
      refine z_get (v := .int ab) hE hB inX8 0 rfl rfl 5 (by decide) q1_84 (fun _ h9 => h9) rfl dX8_part_22 ?_
      refine lv_i2l hE.x hE.b dX8_part_25 rfl ?_
      refine lv_goto (tgt := 34) hE.x hE.b dX8_part_26 (by decide) ?_
      exact z_lret (v := (Int32.toInt64 ab)) (ws := xW g x9 d rr im tx (nI ln) ab be (A 3 0) (A 3 1) (A 3 2) tb ib ++ (lW g d da (nI T) (nI C) (nI U) (nI V) rd ro lw pl pc gv aw nt ++ (Y ++ X))) hE hB hr (⟨(by unfold partR; rw [if_pos (show nI k = 0 by rw [show k = 0 by omega]; rfl), h4]), lS_i (A1 := A) T C U V rd ro lw pl pc gv aw nt Y (by unfold partA; rw [if_pos (show nI k = 0 by rw [show k = 0 by omega]; rfl)]) rfl hn hrel (fun _ h => h)⟩) dX8_part_34
  · refine lv_aload_n hE.x hE.b dX8_part_9 rfl (lv_at hl 0 rfl) ?_
    refine lv_bipush (v := (-2)) hE.x hE.b dX8_part_10 rfl ?_
    refine z_qi hB (z_cV hE hB (c_X8_bad l g x9 d rr im tx (nI ln) ab be (A 3 0) (A 3 1) (A 3 2) tb ib (-2) (lW g d da (nI T) (nI C) (nI U) (nI V) rd ro lw pl pc gv aw nt ++ (Y ++ X))) q1_126 kX8_bad ⟨rfl, rfl⟩ ⟨Nat.le_of_ble_eq_true rfl, Nat.le_of_ble_eq_true rfl⟩ 0 rfl rfl rfl hl.1 rfl (Nat.le_of_ble_eq_true rfl) dX8_part_12 ⟨Nat.le_of_ble_eq_true rfl, Nat.le_of_ble_eq_true rfl⟩) (fun r_5 w_6 H locs hw hB => ?_)
    obtain ⟨hr9, hw9⟩ := hw
    have hr9 := hr9.symm
    subst hr9
    have hw9 := hw9.symm
    subst hw9
    refine lv_i2l hE.x hE.b dX8_part_15 rfl ?_
    exact z_lret (v := (Int32.toInt64 (-2))) (ws := xW g x9 d rr im tx (nI ln) ab be ((A 3 0) + nI 1) (A 3 1) (A 3 2) tb ib ++ (lW g d da (nI T) (nI C) (nI U) (nI V) rd ro lw pl pc gv aw nt ++ (Y ++ X))) hE hB hr (⟨(by unfold partR; rw [if_neg (in01_n c_3).1, if_neg (in01_n c_3).2]), lS_i (A1 := bump 0 A) T C U V rd ro lw pl pc gv aw nt Y (by unfold partA; rw [if_neg (in01_n c_3).1, if_neg (in01_n c_3).2]) rfl hn hrel (fun _ h => h)⟩) dX8_part_16

set_option maxHeartbeats 4000000 in
set_option maxRecDepth 100000 in
theorem c_X8_status (l : Launch) (g : zG) (x9 : Nat) (d : Nat) (rr : Nat) (im : Nat) (tx : Nat) (ab : Int32) (be : Int32) (tb : Nat → Int32) (ib : Nat → Option Nat) (da : Nat → Nat) (T : Nat) (C : Nat) (U : Nat) (V : Nat) (rd : Nat → Int32) (ro : Nat → Int32) (lw : Nat → Option Nat) (pl : Nat → Option Nat) (pc : Nat → Int32) (gv : Nat → Int32) (aw : Nat → Int32) (nt : Nat → Int32) (A : Nat → Nat → Int32) (ln : Nat) (w : Int32) (Y : va_W) (X : va_W) (hn : nOK (A 0) T C V U) (hrel : relL (A 0) T C U V rd ro lw pl pc gv Y) : Met l yX8_status (Cond.code yX8_status cX8_status 2 (some .int) :: TBL) { frames := 1, cells := 0, slots := 0, locals := 21 } (zPc [.ref x9, .int w] g (xW g x9 d rr im tx (nI ln) ab be (A 3 0) (A 3 1) (A 3 2) tb ib ++ (lW g d da (nI T) (nI C) (nI U) (nI V) rd ro lw pl pc gv aw nt ++ (Y ++ X)))) (zQi g (fun r ws => r = (statusR A w) ∧ lS g x9 d da rr im tx (chk (pIn 0 2 w) A) ln ab be tb ib Y X ws)) 0 0 (zA (gz g)) := by
  refine z_start (by decide +kernel) rfl (Nat.le_of_ble_eq_true rfl) ?_
  intro p e s m args below meth c ls hE hr hnm hB hl
  have hl : lv_has ls 2 [(0, .ref x9), (1, .int w)] := hl
  revert hB
  generalize s.heap = H
  generalize ([] : List Loc) = locs
  intro hB
  have hT6 := hn.T6
  have hC8 := hn.C8
  have hV8 := hn.V8
  have hU8 := hn.U8
  refine lv_iload_n hE.x hE.b dX8_status_0 rfl (lv_at hl 1 rfl) ?_
  by_cases e_1 : w = nI 0
  · refine lv_tableIn (tgt := 28) hE.x hE.b dX8_status_1 (by rw [e_1]; decide) (by rw [e_1]; decide) (by rw [e_1]; rfl) (by decide) ?_
    refine lv_aload_n hE.x hE.b dX8_status_28 rfl (lv_at hl 0 rfl) ?_
    refine z_get (v := .int (A 3 0)) hE hB inX8 0 rfl rfl 7 (by decide) q1_86 (fun _ h9 => h9) rfl dX8_status_29 ?_
    exact z_iret (v := (A 3 0)) (ws := xW g x9 d rr im tx (nI ln) ab be (A 3 0) (A 3 1) (A 3 2) tb ib ++ (lW g d da (nI T) (nI C) (nI U) (nI V) rd ro lw pl pc gv aw nt ++ (Y ++ X))) hE hB hr (⟨(by unfold statusR; rw [e_1, if_pos (by decide), rc_i (by omega)]), lS_i (A1 := A) T C U V rd ro lw pl pc gv aw nt Y (chk_t (by rw [e_1]; decide)) rfl hn hrel (fun _ h => h)⟩) dX8_status_32
  by_cases e_2 : w = nI 1
  · refine lv_tableIn (tgt := 33) hE.x hE.b dX8_status_1 (by rw [e_2]; decide) (by rw [e_2]; decide) (by rw [e_2]; rfl) (by decide) ?_
    refine lv_aload_n hE.x hE.b dX8_status_33 rfl (lv_at hl 0 rfl) ?_
    refine z_get (v := .int (A 3 1)) hE hB inX8 0 rfl rfl 8 (by decide) q1_87 (fun _ h9 => h9) rfl dX8_status_34 ?_
    exact z_iret (v := (A 3 1)) (ws := xW g x9 d rr im tx (nI ln) ab be (A 3 0) (A 3 1) (A 3 2) tb ib ++ (lW g d da (nI T) (nI C) (nI U) (nI V) rd ro lw pl pc gv aw nt ++ (Y ++ X))) hE hB hr (⟨(by unfold statusR; rw [e_2, if_pos (by decide), rc_i (by omega)]), lS_i (A1 := A) T C U V rd ro lw pl pc gv aw nt Y (chk_t (by rw [e_2]; decide)) rfl hn hrel (fun _ h => h)⟩) dX8_status_37
  by_cases e_3 : w = nI 2
  · refine lv_tableIn (tgt := 38) hE.x hE.b dX8_status_1 (by rw [e_3]; decide) (by rw [e_3]; decide) (by rw [e_3]; rfl) (by decide) ?_
    refine lv_aload_n hE.x hE.b dX8_status_38 rfl (lv_at hl 0 rfl) ?_
    refine z_get (v := .int (A 3 2)) hE hB inX8 0 rfl rfl 9 (by decide) q1_88 (fun _ h9 => h9) rfl dX8_status_39 ?_
    exact z_iret (v := (A 3 2)) (ws := xW g x9 d rr im tx (nI ln) ab be (A 3 0) (A 3 1) (A 3 2) tb ib ++ (lW g d da (nI T) (nI C) (nI U) (nI V) rd ro lw pl pc gv aw nt ++ (Y ++ X))) hE hB hr (⟨(by unfold statusR; rw [e_3, if_pos (by decide), rc_i (by omega)]), lS_i (A1 := A) T C U V rd ro lw pl pc gv aw nt Y (chk_t (by rw [e_3]; decide)) rfl hn hrel (fun _ h => h)⟩) dX8_status_42
  refine lv_tableOut (tgt := 43) hE.x hE.b dX8_status_1 (by have g0 := ne_toInt e_1 (by decide); have g1 := ne_toInt e_2 (by decide); have g2 := ne_toInt e_3 (by decide); omega) (by decide) ?_
  refine lv_aload_n hE.x hE.b dX8_status_43 rfl (lv_at hl 0 rfl) ?_
  refine lv_iconst (v := (-1)) hE.x hE.b dX8_status_44 rfl ?_
  refine z_qi hB (z_cV hE hB (c_X8_bad l g x9 d rr im tx (nI ln) ab be (A 3 0) (A 3 1) (A 3 2) tb ib (-1) (lW g d da (nI T) (nI C) (nI U) (nI V) rd ro lw pl pc gv aw nt ++ (Y ++ X))) q1_126 kX8_bad ⟨rfl, rfl⟩ ⟨Nat.le_of_ble_eq_true rfl, Nat.le_of_ble_eq_true rfl⟩ 0 rfl rfl rfl hl.1 rfl (Nat.le_of_ble_eq_true rfl) dX8_status_45 ⟨Nat.le_of_ble_eq_true rfl, Nat.le_of_ble_eq_true rfl⟩) (fun r_4 w_5 H locs hw hB => ?_)
  obtain ⟨hr9, hw9⟩ := hw
  have hr9 := hr9.symm
  subst hr9
  have hw9 := hw9.symm
  subst hw9
  exact z_iret (v := (-1)) (ws := xW g x9 d rr im tx (nI ln) ab be ((A 3 0) + nI 1) (A 3 1) (A 3 2) tb ib ++ (lW g d da (nI T) (nI C) (nI U) (nI V) rd ro lw pl pc gv aw nt ++ (Y ++ X))) hE hB hr (⟨(by unfold statusR; rw [if_neg (by rw [(show pIn 0 2 w = false from decide_eq_false (fun h9 => by have g0 := ne_toInt e_1 (by decide); have g1 := ne_toInt e_2 (by decide); have g2 := ne_toInt e_3 (by decide); omega))]; decide)]), lS_i (A1 := bump 0 A) T C U V rd ro lw pl pc gv aw nt Y (chk_f (show pIn 0 2 w = false from decide_eq_false (fun h9 => by have g0 := ne_toInt e_1 (by decide); have g1 := ne_toInt e_2 (by decide); have g2 := ne_toInt e_3 (by decide); omega))) rfl hn hrel (fun _ h => h)⟩) dX8_status_48

set_option maxHeartbeats 4000000 in
set_option maxRecDepth 100000 in
theorem c_X8_count (l : Launch) (g : zG) (x9 : Nat) (d : Nat) (rr : Nat) (im : Nat) (tx : Nat) (ab : Int32) (be : Int32) (tb : Nat → Int32) (ib : Nat → Option Nat) (da : Nat → Nat) (T : Nat) (C : Nat) (U : Nat) (V : Nat) (rd : Nat → Int32) (ro : Nat → Int32) (lw : Nat → Option Nat) (pl : Nat → Option Nat) (pc : Nat → Int32) (gv : Nat → Int32) (aw : Nat → Int32) (nt : Nat → Int32) (A : Nat → Nat → Int32) (ln : Nat) (w : Int32) (Y : va_W) (X : va_W) (hn : nOK (A 0) T C V U) (hrel : relL (A 0) T C U V rd ro lw pl pc gv Y) : Met l yX8_count (Cond.code yX8_count cX8_count 2 (some .int) :: TBL) { frames := 2, cells := 0, slots := 0, locals := 45 } (zPc [.ref x9, .int w] g (xW g x9 d rr im tx (nI ln) ab be (A 3 0) (A 3 1) (A 3 2) tb ib ++ (lW g d da (nI T) (nI C) (nI U) (nI V) rd ro lw pl pc gv aw nt ++ (Y ++ X)))) (zQi g (fun r ws => r = (countR (A 0) T C V U ln w) ∧ lS g x9 d da rr im tx (chk (pIn 0 5 w) A) ln ab be tb ib Y X ws)) 0 0 (zA (gz g)) := by
  refine z_start (by decide +kernel) rfl (Nat.le_of_ble_eq_true rfl) ?_
  intro p e s m args below meth c ls hE hr hnm hB hl
  have hl : lv_has ls 2 [(0, .ref x9), (1, .int w)] := hl
  revert hB
  generalize s.heap = H
  generalize ([] : List Loc) = locs
  intro hB
  have hT6 := hn.T6
  have hC8 := hn.C8
  have hV8 := hn.V8
  have hU8 := hn.U8
  refine lv_iload_n hE.x hE.b dX8_count_0 rfl (lv_at hl 1 rfl) ?_
  by_cases e_1 : w = nI 0
  · refine lv_tableIn (tgt := 40) hE.x hE.b dX8_count_1 (by rw [e_1]; decide) (by rw [e_1]; decide) (by rw [e_1]; rfl) (by decide) ?_
    refine lv_aload_n hE.x hE.b dX8_count_40 rfl (lv_at hl 0 rfl) ?_
    refine z_get (v := .ref d) hE hB inX8 0 rfl rfl 0 (by decide) q1_79 (fun _ h9 => h9) rfl dX8_count_41 ?_
    refine z_get (v := .int (nI T)) hE hB inX4 3 rfl rfl 0 (by decide) q1_34 (fun _ h9 => h9) rfl dX8_count_44 ?_
    exact z_iret (v := (nI T)) (ws := xW g x9 d rr im tx (nI ln) ab be (A 3 0) (A 3 1) (A 3 2) tb ib ++ (lW g d da (nI T) (nI C) (nI U) (nI V) rd ro lw pl pc gv aw nt ++ (Y ++ X))) hE hB hr (⟨(by unfold countR; rw [e_1, if_pos (by decide), rc_i (by omega)]; rfl), lS_i (A1 := A) T C U V rd ro lw pl pc gv aw nt Y (chk_t (by rw [e_1]; decide)) rfl hn hrel (fun _ h => h)⟩) dX8_count_47
  by_cases e_2 : w = nI 1
  · refine lv_tableIn (tgt := 48) hE.x hE.b dX8_count_1 (by rw [e_2]; decide) (by rw [e_2]; decide) (by rw [e_2]; rfl) (by decide) ?_
    refine lv_aload_n hE.x hE.b dX8_count_48 rfl (lv_at hl 0 rfl) ?_
    refine z_get (v := .ref d) hE hB inX8 0 rfl rfl 0 (by decide) q1_79 (fun _ h9 => h9) rfl dX8_count_49 ?_
    refine z_get (v := .int (nI C)) hE hB inX4 3 rfl rfl 1 (by decide) q1_37 (fun _ h9 => h9) rfl dX8_count_52 ?_
    exact z_iret (v := (nI C)) (ws := xW g x9 d rr im tx (nI ln) ab be (A 3 0) (A 3 1) (A 3 2) tb ib ++ (lW g d da (nI T) (nI C) (nI U) (nI V) rd ro lw pl pc gv aw nt ++ (Y ++ X))) hE hB hr (⟨(by unfold countR; rw [e_2, if_pos (by decide), rc_i (by omega)]; rfl), lS_i (A1 := A) T C U V rd ro lw pl pc gv aw nt Y (chk_t (by rw [e_2]; decide)) rfl hn hrel (fun _ h => h)⟩) dX8_count_55
  by_cases e_3 : w = nI 2
  · refine lv_tableIn (tgt := 56) hE.x hE.b dX8_count_1 (by rw [e_3]; decide) (by rw [e_3]; decide) (by rw [e_3]; rfl) (by decide) ?_
    refine lv_aload_n hE.x hE.b dX8_count_56 rfl (lv_at hl 0 rfl) ?_
    refine z_get (v := .ref d) hE hB inX8 0 rfl rfl 0 (by decide) q1_79 (fun _ h9 => h9) rfl dX8_count_57 ?_
    have hB := zB_perm hB (List.perm_append_comm_assoc _ _ _)
    refine z_qi hB (z_cV hE hB (c_X4_roadsBuilt l g d da T C U V rd ro lw pl pc gv aw nt (A 0) Y (xW g x9 d rr im tx (nI ln) ab be (A 3 0) (A 3 1) (A 3 2) tb ib ++ (Y ++ X)) hn hrel (fun _ h => List.mem_append_right _ (List.mem_append_left _ h))) q3_214 kX4_roadsBuilt ⟨rfl, rfl⟩ ⟨Nat.le_of_ble_eq_true rfl, Nat.le_of_ble_eq_true rfl⟩ 0 rfl rfl rfl hl.1 rfl (Nat.le_of_ble_eq_true rfl) dX8_count_60 ⟨Nat.le_of_ble_eq_true rfl, Nat.le_of_ble_eq_true rfl⟩) (fun r_4 w_5 H locs hw hB => ?_)
    obtain ⟨hr9, hw9⟩ := hw
    have hr9 := hr9.symm
    subst hr9
    have hw9 := hw9.symm
    subst hw9
    have hB := zB_perm hB (List.perm_append_comm_assoc _ _ _)
    exact z_iret (v := (nI (rcA (A 0) T T))) (ws := xW g x9 d rr im tx (nI ln) ab be (A 3 0) (A 3 1) (A 3 2) tb ib ++ (lW g d da (nI T) (nI C) (nI U) (nI V) rd ro lw pl pc gv aw nt ++ (Y ++ X))) hE hB hr (⟨(by unfold countR; rw [e_3, if_pos (by decide), rc_i (by omega)]; rfl), lS_i (A1 := A) T C U V rd ro lw pl pc gv aw nt Y (chk_t (by rw [e_3]; decide)) rfl hn hrel (fun _ h => h)⟩) dX8_count_63
  by_cases e_6 : w = nI 3
  · refine lv_tableIn (tgt := 64) hE.x hE.b dX8_count_1 (by rw [e_6]; decide) (by rw [e_6]; decide) (by rw [e_6]; rfl) (by decide) ?_
    refine lv_aload_n hE.x hE.b dX8_count_64 rfl (lv_at hl 0 rfl) ?_
    refine z_get (v := .ref d) hE hB inX8 0 rfl rfl 0 (by decide) q1_79 (fun _ h9 => h9) rfl dX8_count_65 ?_
    refine z_get (v := .int (nI V)) hE hB inX4 3 rfl rfl 3 (by decide) q1_42 (fun _ h9 => h9) rfl dX8_count_68 ?_
    exact z_iret (v := (nI V)) (ws := xW g x9 d rr im tx (nI ln) ab be (A 3 0) (A 3 1) (A 3 2) tb ib ++ (lW g d da (nI T) (nI C) (nI U) (nI V) rd ro lw pl pc gv aw nt ++ (Y ++ X))) hE hB hr (⟨(by unfold countR; rw [e_6, if_pos (by decide), rc_i (by omega)]; rfl), lS_i (A1 := A) T C U V rd ro lw pl pc gv aw nt Y (chk_t (by rw [e_6]; decide)) rfl hn hrel (fun _ h => h)⟩) dX8_count_71
  by_cases e_7 : w = nI 4
  · refine lv_tableIn (tgt := 72) hE.x hE.b dX8_count_1 (by rw [e_7]; decide) (by rw [e_7]; decide) (by rw [e_7]; rfl) (by decide) ?_
    refine lv_aload_n hE.x hE.b dX8_count_72 rfl (lv_at hl 0 rfl) ?_
    refine z_get (v := .ref d) hE hB inX8 0 rfl rfl 0 (by decide) q1_79 (fun _ h9 => h9) rfl dX8_count_73 ?_
    refine z_get (v := .int (nI U)) hE hB inX4 3 rfl rfl 2 (by decide) q1_40 (fun _ h9 => h9) rfl dX8_count_76 ?_
    exact z_iret (v := (nI U)) (ws := xW g x9 d rr im tx (nI ln) ab be (A 3 0) (A 3 1) (A 3 2) tb ib ++ (lW g d da (nI T) (nI C) (nI U) (nI V) rd ro lw pl pc gv aw nt ++ (Y ++ X))) hE hB hr (⟨(by unfold countR; rw [e_7, if_pos (by decide), rc_i (by omega)]; rfl), lS_i (A1 := A) T C U V rd ro lw pl pc gv aw nt Y (chk_t (by rw [e_7]; decide)) rfl hn hrel (fun _ h => h)⟩) dX8_count_79
  by_cases e_8 : w = nI 5
  · refine lv_tableIn (tgt := 80) hE.x hE.b dX8_count_1 (by rw [e_8]; decide) (by rw [e_8]; decide) (by rw [e_8]; rfl) (by decide) ?_
    refine lv_aload_n hE.x hE.b dX8_count_80 rfl (lv_at hl 0 rfl) ?_
    refine z_get (v := .int (nI ln)) hE hB inX8 0 rfl rfl 4 (by decide) q1_83 (fun _ h9 => h9) rfl dX8_count_81 ?_
    exact z_iret (v := (nI ln)) (ws := xW g x9 d rr im tx (nI ln) ab be (A 3 0) (A 3 1) (A 3 2) tb ib ++ (lW g d da (nI T) (nI C) (nI U) (nI V) rd ro lw pl pc gv aw nt ++ (Y ++ X))) hE hB hr (⟨(by unfold countR; rw [e_8, if_pos (by decide), rc_i (by omega)]; rfl), lS_i (A1 := A) T C U V rd ro lw pl pc gv aw nt Y (chk_t (by rw [e_8]; decide)) rfl hn hrel (fun _ h => h)⟩) dX8_count_84
  refine lv_tableOut (tgt := 85) hE.x hE.b dX8_count_1 (by have g0 := ne_toInt e_1 (by decide); have g1 := ne_toInt e_2 (by decide); have g2 := ne_toInt e_3 (by decide); have g3 := ne_toInt e_6 (by decide); have g4 := ne_toInt e_7 (by decide); have g5 := ne_toInt e_8 (by decide); omega) (by decide) ?_
  refine lv_aload_n hE.x hE.b dX8_count_85 rfl (lv_at hl 0 rfl) ?_
  refine lv_bipush (v := (-2)) hE.x hE.b dX8_count_86 rfl ?_
  refine z_qi hB (z_cV hE hB (c_X8_bad l g x9 d rr im tx (nI ln) ab be (A 3 0) (A 3 1) (A 3 2) tb ib (-2) (lW g d da (nI T) (nI C) (nI U) (nI V) rd ro lw pl pc gv aw nt ++ (Y ++ X))) q1_126 kX8_bad ⟨rfl, rfl⟩ ⟨Nat.le_of_ble_eq_true rfl, Nat.le_of_ble_eq_true rfl⟩ 0 rfl rfl rfl hl.1 rfl (Nat.le_of_ble_eq_true rfl) dX8_count_88 ⟨Nat.le_of_ble_eq_true rfl, Nat.le_of_ble_eq_true rfl⟩) (fun r_9 w_10 H locs hw hB => ?_)
  obtain ⟨hr9, hw9⟩ := hw
  have hr9 := hr9.symm
  subst hr9
  have hw9 := hw9.symm
  subst hw9
  exact z_iret (v := (-2)) (ws := xW g x9 d rr im tx (nI ln) ab be ((A 3 0) + nI 1) (A 3 1) (A 3 2) tb ib ++ (lW g d da (nI T) (nI C) (nI U) (nI V) rd ro lw pl pc gv aw nt ++ (Y ++ X))) hE hB hr (⟨(by unfold countR; rw [if_neg (by rw [(show pIn 0 5 w = false from decide_eq_false (fun h9 => by have g0 := ne_toInt e_1 (by decide); have g1 := ne_toInt e_2 (by decide); have g2 := ne_toInt e_3 (by decide); have g3 := ne_toInt e_6 (by decide); have g4 := ne_toInt e_7 (by decide); have g5 := ne_toInt e_8 (by decide); omega))]; decide)]), lS_i (A1 := bump 0 A) T C U V rd ro lw pl pc gv aw nt Y (chk_f (show pIn 0 5 w = false from decide_eq_false (fun h9 => by have g0 := ne_toInt e_1 (by decide); have g1 := ne_toInt e_2 (by decide); have g2 := ne_toInt e_3 (by decide); have g3 := ne_toInt e_6 (by decide); have g4 := ne_toInt e_7 (by decide); have g5 := ne_toInt e_8 (by decide); omega))) rfl hn hrel (fun _ h => h)⟩) dX8_count_91

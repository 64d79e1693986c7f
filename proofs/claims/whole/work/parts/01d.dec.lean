theorem dX3_lines_8 : decode cX3_lines 8 = .ok (.iload_n 3, 1) := by decide +kernel
theorem dX3_lines_9 : decode cX3_lines 9 = .ok (.iconst 4, 1) := by decide +kernel
theorem dX3_lines_10 : decode cX3_lines 10 = .ok (.if_icmp .ge 21, 3) := by decide +kernel
theorem dX3_lines_13 : decode cX3_lines 13 = .ok (.iload_n 2, 1) := by decide +kernel
theorem dX3_lines_14 : decode cX3_lines 14 = .ok (.aload_n 0, 1) := by decide +kernel
theorem dX3_lines_15 : decode cX3_lines 15 = .ok (.getfield 19, 3) := by decide +kernel
theorem dX3_lines_18 : decode cX3_lines 18 = .ok (.iload_n 1, 1) := by decide +kernel
theorem dX3_lines_19 : decode cX3_lines 19 = .ok (.iload_n 3, 1) := by decide +kernel
theorem dX3_lines_20 : decode cX3_lines 20 = .ok (.invokevirtual 178, 3) := by decide +kernel
theorem dX3_lines_23 : decode cX3_lines 23 = .ok (.iadd, 1) := by decide +kernel
theorem dX3_lines_24 : decode cX3_lines 24 = .ok (.istore_n 2, 1) := by decide +kernel
theorem dX3_lines_25 : decode cX3_lines 25 = .ok (.iinc 3 1, 3) := by decide +kernel
theorem dX3_lines_28 : decode cX3_lines 28 = .ok (.goto (-20), 3) := by decide +kernel
theorem dX3_lines_31 : decode cX3_lines 31 = .ok (.iload_n 2, 1) := by decide +kernel
theorem dX3_lines_32 : decode cX3_lines 32 = .ok (.ireturn, 1) := by decide +kernel
theorem dX3_oldest_0 : decode cX3_oldest 0 = .ok (.iload_n 1, 1) := by decide +kernel
theorem dX3_oldest_1 : decode cX3_oldest 1 = .ok (.invokestatic 119, 3) := by decide +kernel
theorem dX3_oldest_4 : decode cX3_oldest 4 = .ok (.iload_n 2, 1) := by decide +kernel
theorem dX3_oldest_5 : decode cX3_oldest 5 = .ok (.ifCond .lt 8, 3) := by decide +kernel
theorem dX3_oldest_8 : decode cX3_oldest 8 = .ok (.iload_n 2, 1) := by decide +kernel
theorem dX3_oldest_9 : decode cX3_oldest 9 = .ok (.iconst 4, 1) := by decide +kernel
theorem dX3_oldest_10 : decode cX3_oldest 10 = .ok (.if_icmp .lt 13, 3) := by decide +kernel
theorem dX3_oldest_13 : decode cX3_oldest 13 = .ok (.new 36, 3) := by decide +kernel
theorem dX3_oldest_16 : decode cX3_oldest 16 = .ok (.dup, 1) := by decide +kernel
theorem dX3_oldest_17 : decode cX3_oldest 17 = .ok (.ldc 182, 2) := by decide +kernel
theorem dX3_oldest_19 : decode cX3_oldest 19 = .ok (.invokespecial 40, 3) := by decide +kernel
theorem dX3_oldest_22 : decode cX3_oldest 22 = .ok (.athrow, 1) := by decide +kernel
theorem dX3_oldest_23 : decode cX3_oldest 23 = .ok (.aload_n 0, 1) := by decide +kernel
theorem dX3_oldest_24 : decode cX3_oldest 24 = .ok (.getfield 19, 3) := by decide +kernel
theorem dX3_oldest_27 : decode cX3_oldest 27 = .ok (.iload_n 1, 1) := by decide +kernel
theorem dX3_oldest_28 : decode cX3_oldest 28 = .ok (.iload_n 2, 1) := by decide +kernel
theorem dX3_oldest_29 : decode cX3_oldest 29 = .ok (.invokevirtual 184, 3) := by decide +kernel
theorem dX3_oldest_32 : decode cX3_oldest 32 = .ok (.istore_n 3, 1) := by decide +kernel
theorem dX3_oldest_33 : decode cX3_oldest 33 = .ok (.iload_n 3, 1) := by decide +kernel
theorem dX3_oldest_34 : decode cX3_oldest 34 = .ok (.iconst (-1), 1) := by decide +kernel
theorem dX3_oldest_35 : decode cX3_oldest 35 = .ok (.if_icmp .ne 13, 3) := by decide +kernel
theorem dX3_oldest_38 : decode cX3_oldest 38 = .ok (.new 103, 3) := by decide +kernel
theorem dX3_oldest_41 : decode cX3_oldest 41 = .ok (.dup, 1) := by decide +kernel
theorem dX3_oldest_42 : decode cX3_oldest 42 = .ok (.ldc 187, 2) := by decide +kernel
theorem dX3_oldest_44 : decode cX3_oldest 44 = .ok (.invokespecial 107, 3) := by decide +kernel
theorem dX3_oldest_47 : decode cX3_oldest 47 = .ok (.athrow, 1) := by decide +kernel
theorem dX3_oldest_48 : decode cX3_oldest 48 = .ok (.iload_n 3, 1) := by decide +kernel
theorem dX3_oldest_49 : decode cX3_oldest 49 = .ok (.ireturn, 1) := by decide +kernel
theorem dX3_count_0 : decode cX3_count 0 = .ok (.aload_n 0, 1) := by decide +kernel
theorem dX3_count_1 : decode cX3_count 1 = .ok (.iload_n 1, 1) := by decide +kernel
theorem dX3_count_2 : decode cX3_count 2 = .ok (.invokevirtual 56, 3) := by decide +kernel
theorem dX3_count_5 : decode cX3_count 5 = .ok (.iload_n 2, 1) := by decide +kernel
theorem dX3_count_6 : decode cX3_count 6 = .ok (.invokestatic 189, 3) := by decide +kernel
theorem dX3_count_9 : decode cX3_count 9 = .ok (.ifCond .ne 13, 3) := by decide +kernel
theorem dX3_count_12 : decode cX3_count 12 = .ok (.new 36, 3) := by decide +kernel
theorem dX3_count_15 : decode cX3_count 15 = .ok (.dup, 1) := by decide +kernel
theorem dX3_count_16 : decode cX3_count 16 = .ok (.ldc 193, 2) := by decide +kernel
theorem dX3_count_18 : decode cX3_count 18 = .ok (.invokespecial 40, 3) := by decide +kernel
theorem dX3_count_21 : decode cX3_count 21 = .ok (.athrow, 1) := by decide +kernel
theorem dX3_count_22 : decode cX3_count 22 = .ok (.iconst 0, 1) := by decide +kernel
theorem dX3_count_23 : decode cX3_count 23 = .ok (.istore_n 3, 1) := by decide +kernel
theorem dX3_count_24 : decode cX3_count 24 = .ok (.iconst 0, 1) := by decide +kernel
theorem dX3_count_25 : decode cX3_count 25 = .ok (.istore 4, 2) := by decide +kernel
theorem dX3_count_27 : decode cX3_count 27 = .ok (.iload 4, 2) := by decide +kernel
theorem dX3_count_29 : decode cX3_count 29 = .ok (.aload_n 0, 1) := by decide +kernel
theorem dX3_count_30 : decode cX3_count 30 = .ok (.getfield 33, 3) := by decide +kernel
theorem dX3_count_33 : decode cX3_count 33 = .ok (.invokeinterface 141 1, 5) := by decide +kernel
theorem dX3_count_38 : decode cX3_count 38 = .ok (.if_icmp .ge 46, 3) := by decide +kernel
theorem dX3_count_41 : decode cX3_count 41 = .ok (.aload_n 0, 1) := by decide +kernel
theorem dX3_count_42 : decode cX3_count 42 = .ok (.getfield 33, 3) := by decide +kernel
theorem dX3_count_45 : decode cX3_count 45 = .ok (.iload 4, 2) := by decide +kernel
theorem dX3_count_47 : decode cX3_count 47 = .ok (.invokeinterface 148 2, 5) := by decide +kernel
theorem dX3_count_52 : decode cX3_count 52 = .ok (.checkcast 113, 3) := by decide +kernel
theorem dX3_count_55 : decode cX3_count 55 = .ok (.astore 5, 2) := by decide +kernel
theorem dX3_count_57 : decode cX3_count 57 = .ok (.aload 5, 2) := by decide +kernel
theorem dX3_count_59 : decode cX3_count 59 = .ok (.getfield 195, 3) := by decide +kernel
theorem dX3_count_62 : decode cX3_count 62 = .ok (.iload_n 1, 1) := by decide +kernel
theorem dX3_count_63 : decode cX3_count 63 = .ok (.if_icmp .ne 15, 3) := by decide +kernel
theorem dX3_count_66 : decode cX3_count 66 = .ok (.aload 5, 2) := by decide +kernel
theorem dX3_count_68 : decode cX3_count 68 = .ok (.getfield 159, 3) := by decide +kernel
theorem dX3_count_71 : decode cX3_count 71 = .ok (.iload_n 2, 1) := by decide +kernel
theorem dX3_count_72 : decode cX3_count 72 = .ok (.if_icmp .ne 6, 3) := by decide +kernel
theorem dX3_count_75 : decode cX3_count 75 = .ok (.iinc 3 1, 3) := by decide +kernel
theorem dX3_count_78 : decode cX3_count 78 = .ok (.iinc 4 1, 3) := by decide +kernel
theorem dX3_count_81 : decode cX3_count 81 = .ok (.goto (-54), 3) := by decide +kernel
theorem dX3_count_84 : decode cX3_count 84 = .ok (.iload_n 3, 1) := by decide +kernel
theorem dX3_count_85 : decode cX3_count 85 = .ok (.ireturn, 1) := by decide +kernel
theorem dX3_bill_0 : decode cX3_bill 0 = .ok (.aload_n 0, 1) := by decide +kernel
theorem dX3_bill_1 : decode cX3_bill 1 = .ok (.iload_n 1, 1) := by decide +kernel
theorem dX3_bill_2 : decode cX3_bill 2 = .ok (.invokevirtual 56, 3) := by decide +kernel
theorem dX3_bill_5 : decode cX3_bill 5 = .ok (.aload_n 0, 1) := by decide +kernel
theorem dX3_bill_6 : decode cX3_bill 6 = .ok (.iload_n 1, 1) := by decide +kernel
theorem dX3_bill_7 : decode cX3_bill 7 = .ok (.invokevirtual 198, 3) := by decide +kernel
theorem dX3_bill_10 : decode cX3_bill 10 = .ok (.lreturn, 1) := by decide +kernel
theorem dX3_worst_0 : decode cX3_worst 0 = .ok (.aload_n 0, 1) := by decide +kernel
theorem dX3_worst_1 : decode cX3_worst 1 = .ok (.getfield 10, 3) := by decide +kernel
theorem dX3_worst_4 : decode cX3_worst 4 = .ok (.invokevirtual 202, 3) := by decide +kernel
theorem dX3_worst_7 : decode cX3_worst 7 = .ok (.ifCond .ne 13, 3) := by decide +kernel
theorem dX3_worst_10 : decode cX3_worst 10 = .ok (.new 103, 3) := by decide +kernel
theorem dX3_worst_13 : decode cX3_worst 13 = .ok (.dup, 1) := by decide +kernel
theorem dX3_worst_14 : decode cX3_worst 14 = .ok (.ldc 205, 2) := by decide +kernel
theorem dX3_worst_16 : decode cX3_worst 16 = .ok (.invokespecial 107, 3) := by decide +kernel
theorem dX3_worst_19 : decode cX3_worst 19 = .ok (.athrow, 1) := by decide +kernel
theorem dX3_worst_20 : decode cX3_worst 20 = .ok (.iconst 0, 1) := by decide +kernel
theorem dX3_worst_21 : decode cX3_worst 21 = .ok (.istore_n 1, 1) := by decide +kernel
theorem dX3_worst_22 : decode cX3_worst 22 = .ok (.aload_n 0, 1) := by decide +kernel
theorem dX3_worst_23 : decode cX3_worst 23 = .ok (.iconst 0, 1) := by decide +kernel
theorem dX3_worst_24 : decode cX3_worst 24 = .ok (.invokevirtual 198, 3) := by decide +kernel
theorem dX3_worst_27 : decode cX3_worst 27 = .ok (.lstore_n 2, 1) := by decide +kernel
theorem dX3_worst_28 : decode cX3_worst 28 = .ok (.iconst 1, 1) := by decide +kernel
theorem dX3_worst_29 : decode cX3_worst 29 = .ok (.istore 4, 2) := by decide +kernel
theorem dX3_worst_31 : decode cX3_worst 31 = .ok (.iload 4, 2) := by decide +kernel
theorem dX3_worst_33 : decode cX3_worst 33 = .ok (.aload_n 0, 1) := by decide +kernel
theorem dX3_worst_34 : decode cX3_worst 34 = .ok (.getfield 10, 3) := by decide +kernel
theorem dX3_worst_37 : decode cX3_worst 37 = .ok (.invokevirtual 202, 3) := by decide +kernel
theorem dX3_worst_40 : decode cX3_worst 40 = .ok (.if_icmp .ge 30, 3) := by decide +kernel
theorem dX3_worst_43 : decode cX3_worst 43 = .ok (.aload_n 0, 1) := by decide +kernel
theorem dX3_worst_44 : decode cX3_worst 44 = .ok (.iload 4, 2) := by decide +kernel
theorem dX3_worst_46 : decode cX3_worst 46 = .ok (.invokevirtual 198, 3) := by decide +kernel
theorem dX3_worst_49 : decode cX3_worst 49 = .ok (.lstore 5, 2) := by decide +kernel
theorem dX3_worst_51 : decode cX3_worst 51 = .ok (.lload 5, 2) := by decide +kernel
theorem dX3_worst_53 : decode cX3_worst 53 = .ok (.lload_n 2, 1) := by decide +kernel
theorem dX3_worst_54 : decode cX3_worst 54 = .ok (.lcmp, 1) := by decide +kernel
theorem dX3_worst_55 : decode cX3_worst 55 = .ok (.ifCond .le 9, 3) := by decide +kernel
theorem dX3_worst_58 : decode cX3_worst 58 = .ok (.iload 4, 2) := by decide +kernel
theorem dX3_worst_60 : decode cX3_worst 60 = .ok (.istore_n 1, 1) := by decide +kernel
theorem dX3_worst_61 : decode cX3_worst 61 = .ok (.lload 5, 2) := by decide +kernel
theorem dX3_worst_63 : decode cX3_worst 63 = .ok (.lstore_n 2, 1) := by decide +kernel
theorem dX3_worst_64 : decode cX3_worst 64 = .ok (.iinc 4 1, 3) := by decide +kernel
theorem dX3_worst_67 : decode cX3_worst 67 = .ok (.goto (-36), 3) := by decide +kernel
theorem dX3_worst_70 : decode cX3_worst 70 = .ok (.iload_n 1, 1) := by decide +kernel
theorem dX3_worst_71 : decode cX3_worst 71 = .ok (.ireturn, 1) := by decide +kernel
theorem dX3_cycles_0 : decode cX3_cycles 0 = .ok (.iload_n 1, 1) := by decide +kernel
theorem dX3_cycles_1 : decode cX3_cycles 1 = .ok (.invokestatic 119, 3) := by decide +kernel
theorem dX3_cycles_4 : decode cX3_cycles 4 = .ok (.lconst 0, 1) := by decide +kernel
theorem dX3_cycles_5 : decode cX3_cycles 5 = .ok (.lstore_n 2, 1) := by decide +kernel
theorem dX3_cycles_6 : decode cX3_cycles 6 = .ok (.iconst 0, 1) := by decide +kernel
theorem dX3_cycles_7 : decode cX3_cycles 7 = .ok (.istore 4, 2) := by decide +kernel
theorem dX3_cycles_9 : decode cX3_cycles 9 = .ok (.iload 4, 2) := by decide +kernel
theorem dX3_cycles_11 : decode cX3_cycles 11 = .ok (.aload_n 0, 1) := by decide +kernel
theorem dX3_cycles_12 : decode cX3_cycles 12 = .ok (.getfield 33, 3) := by decide +kernel
theorem dX3_cycles_15 : decode cX3_cycles 15 = .ok (.invokeinterface 141 1, 5) := by decide +kernel
theorem dX3_cycles_20 : decode cX3_cycles 20 = .ok (.if_icmp .ge 43, 3) := by decide +kernel
theorem dX3_cycles_23 : decode cX3_cycles 23 = .ok (.aload_n 0, 1) := by decide +kernel
theorem dX3_cycles_24 : decode cX3_cycles 24 = .ok (.getfield 33, 3) := by decide +kernel
theorem dX3_cycles_27 : decode cX3_cycles 27 = .ok (.iload 4, 2) := by decide +kernel
theorem dX3_cycles_29 : decode cX3_cycles 29 = .ok (.invokeinterface 148 2, 5) := by decide +kernel
theorem dX3_cycles_34 : decode cX3_cycles 34 = .ok (.checkcast 113, 3) := by decide +kernel
theorem dX3_cycles_37 : decode cX3_cycles 37 = .ok (.astore 5, 2) := by decide +kernel
theorem dX3_cycles_39 : decode cX3_cycles 39 = .ok (.aload 5, 2) := by decide +kernel
theorem dX3_cycles_41 : decode cX3_cycles 41 = .ok (.getfield 207, 3) := by decide +kernel
theorem dX3_cycles_44 : decode cX3_cycles 44 = .ok (.iload_n 1, 1) := by decide +kernel
theorem dX3_cycles_45 : decode cX3_cycles 45 = .ok (.if_icmp .ne 12, 3) := by decide +kernel
theorem dX3_cycles_48 : decode cX3_cycles 48 = .ok (.lload_n 2, 1) := by decide +kernel
theorem dX3_cycles_49 : decode cX3_cycles 49 = .ok (.aload 5, 2) := by decide +kernel
theorem dX3_cycles_51 : decode cX3_cycles 51 = .ok (.getfield 152, 3) := by decide +kernel
theorem dX3_cycles_54 : decode cX3_cycles 54 = .ok (.i2l, 1) := by decide +kernel
theorem dX3_cycles_55 : decode cX3_cycles 55 = .ok (.ladd, 1) := by decide +kernel
theorem dX3_cycles_56 : decode cX3_cycles 56 = .ok (.lstore_n 2, 1) := by decide +kernel
theorem dX3_cycles_57 : decode cX3_cycles 57 = .ok (.iinc 4 1, 3) := by decide +kernel
theorem dX3_cycles_60 : decode cX3_cycles 60 = .ok (.goto (-51), 3) := by decide +kernel
theorem dX3_cycles_63 : decode cX3_cycles 63 = .ok (.lload_n 2, 1) := by decide +kernel
theorem dX3_cycles_64 : decode cX3_cycles 64 = .ok (.lreturn, 1) := by decide +kernel
theorem dX3_fetched_0 : decode cX3_fetched 0 = .ok (.iload_n 1, 1) := by decide +kernel
theorem dX3_fetched_1 : decode cX3_fetched 1 = .ok (.invokestatic 119, 3) := by decide +kernel
theorem dX3_fetched_4 : decode cX3_fetched 4 = .ok (.aload_n 0, 1) := by decide +kernel
theorem dX3_fetched_5 : decode cX3_fetched 5 = .ok (.getfield 19, 3) := by decide +kernel
theorem dX3_fetched_8 : decode cX3_fetched 8 = .ok (.iload_n 1, 1) := by decide +kernel
theorem dX3_fetched_9 : decode cX3_fetched 9 = .ok (.invokevirtual 210, 3) := by decide +kernel
theorem dX3_fetched_12 : decode cX3_fetched 12 = .ok (.ireturn, 1) := by decide +kernel
theorem dX3_useful_0 : decode cX3_useful 0 = .ok (.iload_n 1, 1) := by decide +kernel
theorem dX3_useful_1 : decode cX3_useful 1 = .ok (.invokestatic 119, 3) := by decide +kernel
theorem dX3_useful_4 : decode cX3_useful 4 = .ok (.aload_n 0, 1) := by decide +kernel
theorem dX3_useful_5 : decode cX3_useful 5 = .ok (.getfield 19, 3) := by decide +kernel
theorem dX3_useful_8 : decode cX3_useful 8 = .ok (.iload_n 1, 1) := by decide +kernel
theorem dX3_useful_9 : decode cX3_useful 9 = .ok (.invokevirtual 213, 3) := by decide +kernel
theorem dX3_useful_12 : decode cX3_useful 12 = .ok (.ireturn, 1) := by decide +kernel
theorem dX3_wrong_0 : decode cX3_wrong 0 = .ok (.iload_n 1, 1) := by decide +kernel
theorem dX3_wrong_1 : decode cX3_wrong 1 = .ok (.invokestatic 119, 3) := by decide +kernel
theorem dX3_wrong_4 : decode cX3_wrong 4 = .ok (.aload_n 0, 1) := by decide +kernel
theorem dX3_wrong_5 : decode cX3_wrong 5 = .ok (.getfield 19, 3) := by decide +kernel
theorem dX3_wrong_8 : decode cX3_wrong 8 = .ok (.iload_n 1, 1) := by decide +kernel
theorem dX3_wrong_9 : decode cX3_wrong 9 = .ok (.invokevirtual 216, 3) := by decide +kernel
theorem dX3_wrong_12 : decode cX3_wrong 12 = .ok (.ireturn, 1) := by decide +kernel
theorem dX3_missShare_0 : decode cX3_missShare 0 = .ok (.aload_n 0, 1) := by decide +kernel
theorem dX3_missShare_1 : decode cX3_missShare 1 = .ok (.getfield 33, 3) := by decide +kernel
theorem dX3_missShare_4 : decode cX3_missShare 4 = .ok (.invokeinterface 219 1, 5) := by decide +kernel
theorem dX3_missShare_9 : decode cX3_missShare 9 = .ok (.ifCond .eq 13, 3) := by decide +kernel
theorem dX3_missShare_12 : decode cX3_missShare 12 = .ok (.new 222, 3) := by decide +kernel
theorem dX3_missShare_15 : decode cX3_missShare 15 = .ok (.dup, 1) := by decide +kernel
theorem dX3_missShare_16 : decode cX3_missShare 16 = .ok (.ldc 224, 2) := by decide +kernel
theorem dX3_missShare_18 : decode cX3_missShare 18 = .ok (.invokespecial 226, 3) := by decide +kernel
theorem dX3_missShare_21 : decode cX3_missShare 21 = .ok (.athrow, 1) := by decide +kernel
theorem dX3_missShare_22 : decode cX3_missShare 22 = .ok (.iconst 0, 1) := by decide +kernel
theorem dX3_missShare_23 : decode cX3_missShare 23 = .ok (.istore_n 1, 1) := by decide +kernel
theorem dX3_missShare_24 : decode cX3_missShare 24 = .ok (.iconst 0, 1) := by decide +kernel
theorem dX3_missShare_25 : decode cX3_missShare 25 = .ok (.istore_n 2, 1) := by decide +kernel
theorem dX3_missShare_26 : decode cX3_missShare 26 = .ok (.iload_n 2, 1) := by decide +kernel
theorem dX3_missShare_27 : decode cX3_missShare 27 = .ok (.aload_n 0, 1) := by decide +kernel
theorem dX3_missShare_28 : decode cX3_missShare 28 = .ok (.getfield 33, 3) := by decide +kernel
theorem dX3_missShare_31 : decode cX3_missShare 31 = .ok (.invokeinterface 141 1, 5) := by decide +kernel
theorem dX3_missShare_36 : decode cX3_missShare 36 = .ok (.if_icmp .ge 41, 3) := by decide +kernel
theorem dX3_missShare_39 : decode cX3_missShare 39 = .ok (.aload_n 0, 1) := by decide +kernel
theorem dX3_missShare_40 : decode cX3_missShare 40 = .ok (.getfield 33, 3) := by decide +kernel
theorem dX3_missShare_43 : decode cX3_missShare 43 = .ok (.iload_n 2, 1) := by decide +kernel
theorem dX3_missShare_44 : decode cX3_missShare 44 = .ok (.invokeinterface 148 2, 5) := by decide +kernel
theorem dX3_missShare_49 : decode cX3_missShare 49 = .ok (.checkcast 113, 3) := by decide +kernel
theorem dX3_missShare_52 : decode cX3_missShare 52 = .ok (.getfield 159, 3) := by decide +kernel
theorem dX3_missShare_55 : decode cX3_missShare 55 = .ok (.istore_n 3, 1) := by decide +kernel
theorem dX3_missShare_56 : decode cX3_missShare 56 = .ok (.iload_n 3, 1) := by decide +kernel
theorem dX3_missShare_57 : decode cX3_missShare 57 = .ok (.bipush 104, 2) := by decide +kernel
theorem dX3_missShare_59 : decode cX3_missShare 59 = .ok (.if_icmp .eq 12, 3) := by decide +kernel
theorem dX3_missShare_62 : decode cX3_missShare 62 = .ok (.iload_n 3, 1) := by decide +kernel
theorem dX3_missShare_63 : decode cX3_missShare 63 = .ok (.bipush 117, 2) := by decide +kernel
theorem dX3_missShare_65 : decode cX3_missShare 65 = .ok (.if_icmp .eq 6, 3) := by decide +kernel
theorem dX3_missShare_68 : decode cX3_missShare 68 = .ok (.iinc 1 1, 3) := by decide +kernel
theorem dX3_missShare_71 : decode cX3_missShare 71 = .ok (.iinc 2 1, 3) := by decide +kernel
theorem dX3_missShare_74 : decode cX3_missShare 74 = .ok (.goto (-48), 3) := by decide +kernel
theorem dX3_missShare_77 : decode cX3_missShare 77 = .ok (.iload_n 1, 1) := by decide +kernel
theorem dX3_missShare_78 : decode cX3_missShare 78 = .ok (.i2f, 1) := by decide +kernel
theorem dX3_missShare_79 : decode cX3_missShare 79 = .ok (.aload_n 0, 1) := by decide +kernel
theorem dX3_missShare_80 : decode cX3_missShare 80 = .ok (.getfield 33, 3) := by decide +kernel
theorem dX3_missShare_83 : decode cX3_missShare 83 = .ok (.invokeinterface 141 1, 5) := by decide +kernel
theorem dX3_missShare_88 : decode cX3_missShare 88 = .ok (.i2f, 1) := by decide +kernel
theorem dX3_missShare_89 : decode cX3_missShare 89 = .ok (.fdiv, 1) := by decide +kernel
theorem dX3_missShare_90 : decode cX3_missShare 90 = .ok (.freturn, 1) := by decide +kernel
theorem dX3_meanCost_0 : decode cX3_meanCost 0 = .ok (.aload_n 0, 1) := by decide +kernel
theorem dX3_meanCost_1 : decode cX3_meanCost 1 = .ok (.getfield 33, 3) := by decide +kernel
theorem dX3_meanCost_4 : decode cX3_meanCost 4 = .ok (.invokeinterface 219 1, 5) := by decide +kernel
theorem dX3_meanCost_9 : decode cX3_meanCost 9 = .ok (.ifCond .eq 13, 3) := by decide +kernel
theorem dX3_meanCost_12 : decode cX3_meanCost 12 = .ok (.new 222, 3) := by decide +kernel
theorem dX3_meanCost_15 : decode cX3_meanCost 15 = .ok (.dup, 1) := by decide +kernel
theorem dX3_meanCost_16 : decode cX3_meanCost 16 = .ok (.ldc 224, 2) := by decide +kernel
theorem dX3_meanCost_18 : decode cX3_meanCost 18 = .ok (.invokespecial 226, 3) := by decide +kernel
theorem dX3_meanCost_21 : decode cX3_meanCost 21 = .ok (.athrow, 1) := by decide +kernel
theorem dX3_meanCost_22 : decode cX3_meanCost 22 = .ok (.lconst 0, 1) := by decide +kernel
theorem dX3_meanCost_23 : decode cX3_meanCost 23 = .ok (.lstore_n 1, 1) := by decide +kernel
theorem dX3_meanCost_24 : decode cX3_meanCost 24 = .ok (.iconst 0, 1) := by decide +kernel
theorem dX3_meanCost_25 : decode cX3_meanCost 25 = .ok (.istore_n 3, 1) := by decide +kernel
theorem dX3_meanCost_26 : decode cX3_meanCost 26 = .ok (.iload_n 3, 1) := by decide +kernel
theorem dX3_meanCost_27 : decode cX3_meanCost 27 = .ok (.aload_n 0, 1) := by decide +kernel
theorem dX3_meanCost_28 : decode cX3_meanCost 28 = .ok (.getfield 33, 3) := by decide +kernel
theorem dX3_meanCost_31 : decode cX3_meanCost 31 = .ok (.invokeinterface 141 1, 5) := by decide +kernel
theorem dX3_meanCost_36 : decode cX3_meanCost 36 = .ok (.if_icmp .ge 29, 3) := by decide +kernel
theorem dX3_meanCost_39 : decode cX3_meanCost 39 = .ok (.lload_n 1, 1) := by decide +kernel
theorem dX3_meanCost_40 : decode cX3_meanCost 40 = .ok (.aload_n 0, 1) := by decide +kernel
theorem dX3_meanCost_41 : decode cX3_meanCost 41 = .ok (.getfield 33, 3) := by decide +kernel
theorem dX3_meanCost_44 : decode cX3_meanCost 44 = .ok (.iload_n 3, 1) := by decide +kernel
theorem dX3_meanCost_45 : decode cX3_meanCost 45 = .ok (.invokeinterface 148 2, 5) := by decide +kernel
theorem dX3_meanCost_50 : decode cX3_meanCost 50 = .ok (.checkcast 113, 3) := by decide +kernel
theorem dX3_meanCost_53 : decode cX3_meanCost 53 = .ok (.getfield 152, 3) := by decide +kernel
theorem dX3_meanCost_56 : decode cX3_meanCost 56 = .ok (.i2l, 1) := by decide +kernel
theorem dX3_meanCost_57 : decode cX3_meanCost 57 = .ok (.ladd, 1) := by decide +kernel
theorem dX3_meanCost_58 : decode cX3_meanCost 58 = .ok (.lstore_n 1, 1) := by decide +kernel
theorem dX3_meanCost_59 : decode cX3_meanCost 59 = .ok (.iinc 3 1, 3) := by decide +kernel
theorem dX3_meanCost_62 : decode cX3_meanCost 62 = .ok (.goto (-36), 3) := by decide +kernel
theorem dX3_meanCost_65 : decode cX3_meanCost 65 = .ok (.lload_n 1, 1) := by decide +kernel
theorem dX3_meanCost_66 : decode cX3_meanCost 66 = .ok (.l2d, 1) := by decide +kernel
theorem dX3_meanCost_67 : decode cX3_meanCost 67 = .ok (.aload_n 0, 1) := by decide +kernel
theorem dX3_meanCost_68 : decode cX3_meanCost 68 = .ok (.getfield 33, 3) := by decide +kernel
theorem dX3_meanCost_71 : decode cX3_meanCost 71 = .ok (.invokeinterface 141 1, 5) := by decide +kernel
theorem dX3_meanCost_76 : decode cX3_meanCost 76 = .ok (.i2d, 1) := by decide +kernel
theorem dX3_meanCost_77 : decode cX3_meanCost 77 = .ok (.ddiv, 1) := by decide +kernel
theorem dX3_meanCost_78 : decode cX3_meanCost 78 = .ok (.dreturn, 1) := by decide +kernel
theorem dX3_isCoherent_0 : decode cX3_isCoherent 0 = .ok (.aload_n 0, 1) := by decide +kernel
theorem dX3_isCoherent_1 : decode cX3_isCoherent 1 = .ok (.getfield 19, 3) := by decide +kernel
theorem dX3_isCoherent_4 : decode cX3_isCoherent 4 = .ok (.invokevirtual 227, 3) := by decide +kernel
theorem dX3_isCoherent_7 : decode cX3_isCoherent 7 = .ok (.ifCond .eq 14, 3) := by decide +kernel
theorem dX3_isCoherent_10 : decode cX3_isCoherent 10 = .ok (.aload_n 0, 1) := by decide +kernel
theorem dX3_isCoherent_11 : decode cX3_isCoherent 11 = .ok (.invokevirtual 230, 3) := by decide +kernel
theorem dX3_isCoherent_14 : decode cX3_isCoherent 14 = .ok (.ifCond .eq 7, 3) := by decide +kernel
theorem dX3_isCoherent_17 : decode cX3_isCoherent 17 = .ok (.iconst 1, 1) := by decide +kernel
theorem dX3_isCoherent_18 : decode cX3_isCoherent 18 = .ok (.goto 4, 3) := by decide +kernel
theorem dX3_isCoherent_21 : decode cX3_isCoherent 21 = .ok (.iconst 0, 1) := by decide +kernel
theorem dX3_isCoherent_22 : decode cX3_isCoherent 22 = .ok (.ireturn, 1) := by decide +kernel
theorem dX3_checkCore_0 : decode cX3_checkCore 0 = .ok (.iload_n 0, 1) := by decide +kernel
theorem dX3_checkCore_1 : decode cX3_checkCore 1 = .ok (.ifCond .lt 8, 3) := by decide +kernel
theorem dX3_checkCore_4 : decode cX3_checkCore 4 = .ok (.iload_n 0, 1) := by decide +kernel
theorem dX3_checkCore_5 : decode cX3_checkCore 5 = .ok (.iconst 4, 1) := by decide +kernel
theorem dX3_checkCore_6 : decode cX3_checkCore 6 = .ok (.if_icmp .lt 13, 3) := by decide +kernel
theorem dX3_checkCore_9 : decode cX3_checkCore 9 = .ok (.new 233, 3) := by decide +kernel
theorem dX3_checkCore_12 : decode cX3_checkCore 12 = .ok (.dup, 1) := by decide +kernel
theorem dX3_checkCore_13 : decode cX3_checkCore 13 = .ok (.ldc 235, 2) := by decide +kernel
theorem dX3_checkCore_15 : decode cX3_checkCore 15 = .ok (.invokespecial 237, 3) := by decide +kernel
theorem dX3_checkCore_18 : decode cX3_checkCore 18 = .ok (.athrow, 1) := by decide +kernel
theorem dX3_checkCore_19 : decode cX3_checkCore 19 = .ok (.return_, 1) := by decide +kernel
theorem dX3_checkLine_0 : decode cX3_checkLine 0 = .ok (.iload_n 0, 1) := by decide +kernel
theorem dX3_checkLine_1 : decode cX3_checkLine 1 = .ok (.ifCond .lt 9, 3) := by decide +kernel
theorem dX3_checkLine_4 : decode cX3_checkLine 4 = .ok (.iload_n 0, 1) := by decide +kernel
theorem dX3_checkLine_5 : decode cX3_checkLine 5 = .ok (.bipush 64, 2) := by decide +kernel
theorem dX3_checkLine_7 : decode cX3_checkLine 7 = .ok (.if_icmp .lt 13, 3) := by decide +kernel
theorem dX3_checkLine_10 : decode cX3_checkLine 10 = .ok (.new 36, 3) := by decide +kernel
theorem dX3_checkLine_13 : decode cX3_checkLine 13 = .ok (.dup, 1) := by decide +kernel
theorem dX3_checkLine_14 : decode cX3_checkLine 14 = .ok (.ldc 238, 2) := by decide +kernel
theorem dX3_checkLine_16 : decode cX3_checkLine 16 = .ok (.invokespecial 40, 3) := by decide +kernel
theorem dX3_checkLine_19 : decode cX3_checkLine 19 = .ok (.athrow, 1) := by decide +kernel
theorem dX3_checkLine_20 : decode cX3_checkLine 20 = .ok (.return_, 1) := by decide +kernel
theorem dX3_checkName_0 : decode cX3_checkName 0 = .ok (.aload_n 0, 1) := by decide +kernel
theorem dX3_checkName_1 : decode cX3_checkName 1 = .ok (.getfield 10, 3) := by decide +kernel
theorem dX3_checkName_4 : decode cX3_checkName 4 = .ok (.iload_n 1, 1) := by decide +kernel
theorem dX3_checkName_5 : decode cX3_checkName 5 = .ok (.invokevirtual 240, 3) := by decide +kernel
theorem dX3_checkName_8 : decode cX3_checkName 8 = .ok (.ifCond .ne 13, 3) := by decide +kernel
theorem dX3_checkName_11 : decode cX3_checkName 11 = .ok (.new 103, 3) := by decide +kernel
theorem dX3_checkName_14 : decode cX3_checkName 14 = .ok (.dup, 1) := by decide +kernel
theorem dX3_checkName_15 : decode cX3_checkName 15 = .ok (.ldc 243, 2) := by decide +kernel
theorem dX3_checkName_17 : decode cX3_checkName 17 = .ok (.invokespecial 107, 3) := by decide +kernel
theorem dX3_checkName_20 : decode cX3_checkName 20 = .ok (.athrow, 1) := by decide +kernel
theorem dX3_checkName_21 : decode cX3_checkName 21 = .ok (.return_, 1) := by decide +kernel
theorem dX3_checkPlacedName_0 : decode cX3_checkPlacedName 0 = .ok (.aload_n 0, 1) := by decide +kernel
theorem dX3_checkPlacedName_1 : decode cX3_checkPlacedName 1 = .ok (.iload_n 1, 1) := by decide +kernel
theorem dX3_checkPlacedName_2 : decode cX3_checkPlacedName 2 = .ok (.invokevirtual 56, 3) := by decide +kernel
theorem dX3_checkPlacedName_5 : decode cX3_checkPlacedName 5 = .ok (.aload_n 0, 1) := by decide +kernel
theorem dX3_checkPlacedName_6 : decode cX3_checkPlacedName 6 = .ok (.getfield 10, 3) := by decide +kernel
theorem dX3_checkPlacedName_9 : decode cX3_checkPlacedName 9 = .ok (.iload_n 1, 1) := by decide +kernel
theorem dX3_checkPlacedName_10 : decode cX3_checkPlacedName 10 = .ok (.invokevirtual 66, 3) := by decide +kernel
theorem dX3_checkPlacedName_13 : decode cX3_checkPlacedName 13 = .ok (.ifCond .ne 13, 3) := by decide +kernel
theorem dX3_checkPlacedName_16 : decode cX3_checkPlacedName 16 = .ok (.new 47, 3) := by decide +kernel
theorem dX3_checkPlacedName_19 : decode cX3_checkPlacedName 19 = .ok (.dup, 1) := by decide +kernel
theorem dX3_checkPlacedName_20 : decode cX3_checkPlacedName 20 = .ok (.ldc 245, 2) := by decide +kernel
theorem dX3_checkPlacedName_22 : decode cX3_checkPlacedName 22 = .ok (.invokespecial 51, 3) := by decide +kernel
theorem dX3_checkPlacedName_25 : decode cX3_checkPlacedName 25 = .ok (.athrow, 1) := by decide +kernel
theorem dX3_checkPlacedName_26 : decode cX3_checkPlacedName 26 = .ok (.return_, 1) := by decide +kernel
theorem dX3_checkWord_0 : decode cX3_checkWord 0 = .ok (.aload_n 0, 1) := by decide +kernel
theorem dX3_checkWord_1 : decode cX3_checkWord 1 = .ok (.iload_n 1, 1) := by decide +kernel
theorem dX3_checkWord_2 : decode cX3_checkWord 2 = .ok (.invokevirtual 91, 3) := by decide +kernel
theorem dX3_checkWord_5 : decode cX3_checkWord 5 = .ok (.aload_n 0, 1) := by decide +kernel
theorem dX3_checkWord_6 : decode cX3_checkWord 6 = .ok (.getfield 10, 3) := by decide +kernel
theorem dX3_checkWord_9 : decode cX3_checkWord 9 = .ok (.iload_n 1, 1) := by decide +kernel
theorem dX3_checkWord_10 : decode cX3_checkWord 10 = .ok (.iload_n 2, 1) := by decide +kernel
theorem dX3_checkWord_11 : decode cX3_checkWord 11 = .ok (.invokevirtual 247, 3) := by decide +kernel
theorem dX3_checkWord_14 : decode cX3_checkWord 14 = .ok (.ifCond .ne 13, 3) := by decide +kernel
theorem dX3_checkWord_17 : decode cX3_checkWord 17 = .ok (.new 36, 3) := by decide +kernel
theorem dX3_checkWord_20 : decode cX3_checkWord 20 = .ok (.dup, 1) := by decide +kernel
theorem dX3_checkWord_21 : decode cX3_checkWord 21 = .ok (.ldc 250, 2) := by decide +kernel
theorem dX3_checkWord_23 : decode cX3_checkWord 23 = .ok (.invokespecial 40, 3) := by decide +kernel
theorem dX3_checkWord_26 : decode cX3_checkWord 26 = .ok (.athrow, 1) := by decide +kernel
theorem dX3_checkWord_27 : decode cX3_checkWord 27 = .ok (.return_, 1) := by decide +kernel
theorem dX3_checkIndex_0 : decode cX3_checkIndex 0 = .ok (.iload_n 1, 1) := by decide +kernel
theorem dX3_checkIndex_1 : decode cX3_checkIndex 1 = .ok (.ifCond .lt 16, 3) := by decide +kernel
theorem dX3_checkIndex_4 : decode cX3_checkIndex 4 = .ok (.iload_n 1, 1) := by decide +kernel
theorem dX3_checkIndex_5 : decode cX3_checkIndex 5 = .ok (.aload_n 0, 1) := by decide +kernel
theorem dX3_checkIndex_6 : decode cX3_checkIndex 6 = .ok (.getfield 33, 3) := by decide +kernel
theorem dX3_checkIndex_9 : decode cX3_checkIndex 9 = .ok (.invokeinterface 141 1, 5) := by decide +kernel
theorem dX3_checkIndex_14 : decode cX3_checkIndex 14 = .ok (.if_icmp .lt 13, 3) := by decide +kernel
theorem dX3_checkIndex_17 : decode cX3_checkIndex 17 = .ok (.new 103, 3) := by decide +kernel
theorem dX3_checkIndex_20 : decode cX3_checkIndex 20 = .ok (.dup, 1) := by decide +kernel
theorem dX3_checkIndex_21 : decode cX3_checkIndex 21 = .ok (.ldc 252, 2) := by decide +kernel
theorem dX3_checkIndex_23 : decode cX3_checkIndex 23 = .ok (.invokespecial 107, 3) := by decide +kernel
theorem dX3_checkIndex_26 : decode cX3_checkIndex 26 = .ok (.athrow, 1) := by decide +kernel
theorem dX3_checkIndex_27 : decode cX3_checkIndex 27 = .ok (.return_, 1) := by decide +kernel
theorem dX3_isCause_0 : decode cX3_isCause 0 = .ok (.iload_n 0, 1) := by decide +kernel
theorem dX3_isCause_1 : decode cX3_isCause 1 = .ok (.bipush 104, 2) := by decide +kernel
theorem dX3_isCause_3 : decode cX3_isCause 3 = .ok (.if_icmp .eq 33, 3) := by decide +kernel
theorem dX3_isCause_6 : decode cX3_isCause 6 = .ok (.iload_n 0, 1) := by decide +kernel
theorem dX3_isCause_7 : decode cX3_isCause 7 = .ok (.bipush 117, 2) := by decide +kernel
theorem dX3_isCause_9 : decode cX3_isCause 9 = .ok (.if_icmp .eq 27, 3) := by decide +kernel
theorem dX3_isCause_12 : decode cX3_isCause 12 = .ok (.iload_n 0, 1) := by decide +kernel
theorem dX3_isCause_13 : decode cX3_isCause 13 = .ok (.bipush 99, 2) := by decide +kernel
theorem dX3_isCause_15 : decode cX3_isCause 15 = .ok (.if_icmp .eq 21, 3) := by decide +kernel
theorem dX3_isCause_18 : decode cX3_isCause 18 = .ok (.iload_n 0, 1) := by decide +kernel
theorem dX3_isCause_19 : decode cX3_isCause 19 = .ok (.bipush 101, 2) := by decide +kernel
theorem dX3_isCause_21 : decode cX3_isCause 21 = .ok (.if_icmp .eq 15, 3) := by decide +kernel
theorem dX3_isCause_24 : decode cX3_isCause 24 = .ok (.iload_n 0, 1) := by decide +kernel
theorem dX3_isCause_25 : decode cX3_isCause 25 = .ok (.bipush 116, 2) := by decide +kernel
theorem dX3_isCause_27 : decode cX3_isCause 27 = .ok (.if_icmp .eq 9, 3) := by decide +kernel
theorem dX3_isCause_30 : decode cX3_isCause 30 = .ok (.iload_n 0, 1) := by decide +kernel
theorem dX3_isCause_31 : decode cX3_isCause 31 = .ok (.bipush 102, 2) := by decide +kernel
theorem dX3_isCause_33 : decode cX3_isCause 33 = .ok (.if_icmp .ne 7, 3) := by decide +kernel
theorem dX3_isCause_36 : decode cX3_isCause 36 = .ok (.iconst 1, 1) := by decide +kernel
theorem dX3_isCause_37 : decode cX3_isCause 37 = .ok (.goto 4, 3) := by decide +kernel
theorem dX3_isCause_40 : decode cX3_isCause 40 = .ok (.iconst 0, 1) := by decide +kernel
theorem dX3_isCause_41 : decode cX3_isCause 41 = .ok (.ireturn, 1) := by decide +kernel
theorem dX3_isFull_0 : decode cX3_isFull 0 = .ok (.aload_n 0, 1) := by decide +kernel
theorem dX3_isFull_1 : decode cX3_isFull 1 = .ok (.getfield 29, 3) := by decide +kernel
theorem dX3_isFull_4 : decode cX3_isFull 4 = .ok (.invokeinterface 141 1, 5) := by decide +kernel
theorem dX3_isFull_9 : decode cX3_isFull 9 = .ok (.sipush 512, 3) := by decide +kernel
theorem dX3_isFull_12 : decode cX3_isFull 12 = .ok (.if_icmp .lt 7, 3) := by decide +kernel
theorem dX3_isFull_15 : decode cX3_isFull 15 = .ok (.iconst 1, 1) := by decide +kernel
theorem dX3_isFull_16 : decode cX3_isFull 16 = .ok (.goto 4, 3) := by decide +kernel
theorem dX3_isFull_19 : decode cX3_isFull 19 = .ok (.iconst 0, 1) := by decide +kernel
theorem dX3_isFull_20 : decode cX3_isFull 20 = .ok (.ireturn, 1) := by decide +kernel
theorem dX3_access_0 : decode cX3_access 0 = .ok (.iload_n 2, 1) := by decide +kernel
theorem dX3_access_1 : decode cX3_access 1 = .ok (.invokestatic 119, 3) := by decide +kernel
theorem dX3_access_4 : decode cX3_access 4 = .ok (.aload_n 0, 1) := by decide +kernel
theorem dX3_access_5 : decode cX3_access 5 = .ok (.iload_n 3, 1) := by decide +kernel
theorem dX3_access_6 : decode cX3_access 6 = .ok (.iload 4, 2) := by decide +kernel
theorem dX3_access_8 : decode cX3_access 8 = .ok (.invokevirtual 97, 3) := by decide +kernel
theorem dX3_access_11 : decode cX3_access 11 = .ok (.aload_n 0, 1) := by decide +kernel
theorem dX3_access_12 : decode cX3_access 12 = .ok (.invokevirtual 122, 3) := by decide +kernel
theorem dX3_access_15 : decode cX3_access 15 = .ok (.ifCond .eq 13, 3) := by decide +kernel
theorem dX3_access_18 : decode cX3_access 18 = .ok (.new 47, 3) := by decide +kernel
theorem dX3_access_21 : decode cX3_access 21 = .ok (.dup, 1) := by decide +kernel
theorem dX3_access_22 : decode cX3_access 22 = .ok (.ldc 254, 2) := by decide +kernel
theorem dX3_access_24 : decode cX3_access 24 = .ok (.invokespecial 51, 3) := by decide +kernel
theorem dX3_access_27 : decode cX3_access 27 = .ok (.athrow, 1) := by decide +kernel
theorem dX3_access_28 : decode cX3_access 28 = .ok (.aload_n 0, 1) := by decide +kernel
theorem dX3_access_29 : decode cX3_access 29 = .ok (.getfield 10, 3) := by decide +kernel
theorem dX3_access_32 : decode cX3_access 32 = .ok (.iload_n 3, 1) := by decide +kernel
theorem dX3_access_33 : decode cX3_access 33 = .ok (.invokevirtual 94, 3) := by decide +kernel
theorem dX3_access_36 : decode cX3_access 36 = .ok (.iload 4, 2) := by decide +kernel
theorem dX3_access_38 : decode cX3_access 38 = .ok (.iadd, 1) := by decide +kernel
theorem dX3_access_39 : decode cX3_access 39 = .ok (.bipush 8, 2) := by decide +kernel
theorem dX3_access_41 : decode cX3_access 41 = .ok (.idiv, 1) := by decide +kernel
theorem dX3_access_42 : decode cX3_access 42 = .ok (.istore 5, 2) := by decide +kernel
theorem dX3_access_44 : decode cX3_access 44 = .ok (.iload_n 1, 1) := by decide +kernel
theorem dX3_access_45 : decode cX3_access 45 = .ok (.iconst 1, 1) := by decide +kernel
theorem dX3_access_46 : decode cX3_access 46 = .ok (.if_icmp .ne 7, 3) := by decide +kernel
theorem dX3_access_49 : decode cX3_access 49 = .ok (.iconst 1, 1) := by decide +kernel
theorem dX3_access_50 : decode cX3_access 50 = .ok (.goto 4, 3) := by decide +kernel
theorem dX3_access_53 : decode cX3_access 53 = .ok (.iconst 0, 1) := by decide +kernel
theorem dX3_access_54 : decode cX3_access 54 = .ok (.istore 6, 2) := by decide +kernel
theorem dX3_access_56 : decode cX3_access 56 = .ok (.aload_n 0, 1) := by decide +kernel
theorem dX3_access_57 : decode cX3_access 57 = .ok (.getfield 19, 3) := by decide +kernel
theorem dX3_access_60 : decode cX3_access 60 = .ok (.iload_n 2, 1) := by decide +kernel
theorem dX3_access_61 : decode cX3_access 61 = .ok (.iload_n 3, 1) := by decide +kernel
theorem dX3_access_62 : decode cX3_access 62 = .ok (.iload 5, 2) := by decide +kernel
theorem dX3_access_64 : decode cX3_access 64 = .ok (.iload 6, 2) := by decide +kernel
theorem dX3_access_66 : decode cX3_access 66 = .ok (.invokevirtual 256, 3) := by decide +kernel
theorem dX3_access_69 : decode cX3_access 69 = .ok (.istore 7, 2) := by decide +kernel
theorem dX3_access_71 : decode cX3_access 71 = .ok (.aload_n 0, 1) := by decide +kernel
theorem dX3_access_72 : decode cX3_access 72 = .ok (.getfield 19, 3) := by decide +kernel
theorem dX3_access_75 : decode cX3_access 75 = .ok (.iload_n 2, 1) := by decide +kernel
theorem dX3_access_76 : decode cX3_access 76 = .ok (.iload_n 3, 1) := by decide +kernel
theorem dX3_access_77 : decode cX3_access 77 = .ok (.iload 5, 2) := by decide +kernel
theorem dX3_access_79 : decode cX3_access 79 = .ok (.iload 6, 2) := by decide +kernel
theorem dX3_access_81 : decode cX3_access 81 = .ok (.invokevirtual 260, 3) := by decide +kernel
theorem dX3_access_84 : decode cX3_access 84 = .ok (.istore 8, 2) := by decide +kernel
theorem dX3_access_86 : decode cX3_access 86 = .ok (.new 113, 3) := by decide +kernel
theorem dX3_access_89 : decode cX3_access 89 = .ok (.dup, 1) := by decide +kernel
theorem dX3_access_90 : decode cX3_access 90 = .ok (.iload_n 1, 1) := by decide +kernel
theorem dX3_access_91 : decode cX3_access 91 = .ok (.iload_n 2, 1) := by decide +kernel
theorem dX3_access_92 : decode cX3_access 92 = .ok (.iload_n 3, 1) := by decide +kernel
theorem dX3_access_93 : decode cX3_access 93 = .ok (.iload 5, 2) := by decide +kernel
theorem dX3_access_95 : decode cX3_access 95 = .ok (.iload 8, 2) := by decide +kernel
theorem dX3_access_97 : decode cX3_access 97 = .ok (.iload 7, 2) := by decide +kernel
theorem dX3_access_99 : decode cX3_access 99 = .ok (.invokespecial 264, 3) := by decide +kernel
theorem dX3_access_102 : decode cX3_access 102 = .ok (.astore 9, 2) := by decide +kernel
theorem dX3_access_104 : decode cX3_access 104 = .ok (.aload_n 0, 1) := by decide +kernel
theorem dX3_access_105 : decode cX3_access 105 = .ok (.getfield 29, 3) := by decide +kernel
theorem dX3_access_108 : decode cX3_access 108 = .ok (.aload 9, 2) := by decide +kernel
theorem dX3_access_110 : decode cX3_access 110 = .ok (.invokeinterface 125 2, 5) := by decide +kernel
theorem dX3_access_115 : decode cX3_access 115 = .ok (.pop, 1) := by decide +kernel
theorem dX3_access_116 : decode cX3_access 116 = .ok (.aload_n 0, 1) := by decide +kernel
theorem dX3_access_117 : decode cX3_access 117 = .ok (.getfield 33, 3) := by decide +kernel
theorem dX3_access_120 : decode cX3_access 120 = .ok (.aload 9, 2) := by decide +kernel
theorem dX3_access_122 : decode cX3_access 122 = .ok (.invokeinterface 125 2, 5) := by decide +kernel
theorem dX3_access_127 : decode cX3_access 127 = .ok (.pop, 1) := by decide +kernel
theorem dX3_access_128 : decode cX3_access 128 = .ok (.iload 8, 2) := by decide +kernel
theorem dX3_access_130 : decode cX3_access 130 = .ok (.ireturn, 1) := by decide +kernel
theorem dX3_sumOfName_0 : decode cX3_sumOfName 0 = .ok (.lconst 0, 1) := by decide +kernel
theorem dX3_sumOfName_1 : decode cX3_sumOfName 1 = .ok (.lstore_n 2, 1) := by decide +kernel
theorem dX3_sumOfName_2 : decode cX3_sumOfName 2 = .ok (.iconst 0, 1) := by decide +kernel
theorem dX3_sumOfName_3 : decode cX3_sumOfName 3 = .ok (.istore 4, 2) := by decide +kernel
theorem dX3_sumOfName_5 : decode cX3_sumOfName 5 = .ok (.iload 4, 2) := by decide +kernel
theorem dX3_sumOfName_7 : decode cX3_sumOfName 7 = .ok (.aload_n 0, 1) := by decide +kernel
theorem dX3_sumOfName_8 : decode cX3_sumOfName 8 = .ok (.getfield 33, 3) := by decide +kernel
theorem dX3_sumOfName_11 : decode cX3_sumOfName 11 = .ok (.invokeinterface 141 1, 5) := by decide +kernel
theorem dX3_sumOfName_16 : decode cX3_sumOfName 16 = .ok (.if_icmp .ge 43, 3) := by decide +kernel
theorem dX3_sumOfName_19 : decode cX3_sumOfName 19 = .ok (.aload_n 0, 1) := by decide +kernel
theorem dX3_sumOfName_20 : decode cX3_sumOfName 20 = .ok (.getfield 33, 3) := by decide +kernel
theorem dX3_sumOfName_23 : decode cX3_sumOfName 23 = .ok (.iload 4, 2) := by decide +kernel
theorem dX3_sumOfName_25 : decode cX3_sumOfName 25 = .ok (.invokeinterface 148 2, 5) := by decide +kernel
theorem dX3_sumOfName_30 : decode cX3_sumOfName 30 = .ok (.checkcast 113, 3) := by decide +kernel
theorem dX3_sumOfName_33 : decode cX3_sumOfName 33 = .ok (.astore 5, 2) := by decide +kernel
theorem dX3_sumOfName_35 : decode cX3_sumOfName 35 = .ok (.aload 5, 2) := by decide +kernel
theorem dX3_sumOfName_37 : decode cX3_sumOfName 37 = .ok (.getfield 195, 3) := by decide +kernel
theorem dX3_sumOfName_40 : decode cX3_sumOfName 40 = .ok (.iload_n 1, 1) := by decide +kernel
theorem dX3_sumOfName_41 : decode cX3_sumOfName 41 = .ok (.if_icmp .ne 12, 3) := by decide +kernel
theorem dX3_sumOfName_44 : decode cX3_sumOfName 44 = .ok (.lload_n 2, 1) := by decide +kernel
theorem dX3_sumOfName_45 : decode cX3_sumOfName 45 = .ok (.aload 5, 2) := by decide +kernel
theorem dX3_sumOfName_47 : decode cX3_sumOfName 47 = .ok (.getfield 152, 3) := by decide +kernel
theorem dX3_sumOfName_50 : decode cX3_sumOfName 50 = .ok (.i2l, 1) := by decide +kernel
theorem dX3_sumOfName_51 : decode cX3_sumOfName 51 = .ok (.ladd, 1) := by decide +kernel
theorem dX3_sumOfName_52 : decode cX3_sumOfName 52 = .ok (.lstore_n 2, 1) := by decide +kernel
theorem dX3_sumOfName_53 : decode cX3_sumOfName 53 = .ok (.iinc 4 1, 3) := by decide +kernel
theorem dX3_sumOfName_56 : decode cX3_sumOfName 56 = .ok (.goto (-51), 3) := by decide +kernel
theorem dX3_sumOfName_59 : decode cX3_sumOfName 59 = .ok (.lload_n 2, 1) := by decide +kernel
theorem dX3_sumOfName_60 : decode cX3_sumOfName 60 = .ok (.lreturn, 1) := by decide +kernel
theorem dX3_replayUpTo_0 : decode cX3_replayUpTo 0 = .ok (.aload_n 0, 1) := by decide +kernel
theorem dX3_replayUpTo_1 : decode cX3_replayUpTo 1 = .ok (.getfield 23, 3) := by decide +kernel
theorem dX3_replayUpTo_4 : decode cX3_replayUpTo 4 = .ok (.invokevirtual 267, 3) := by decide +kernel
theorem dX3_replayUpTo_7 : decode cX3_replayUpTo 7 = .ok (.iconst 0, 1) := by decide +kernel
theorem dX3_replayUpTo_8 : decode cX3_replayUpTo 8 = .ok (.istore_n 2, 1) := by decide +kernel
theorem dX3_replayUpTo_9 : decode cX3_replayUpTo 9 = .ok (.iconst 0, 1) := by decide +kernel
theorem dX3_replayUpTo_10 : decode cX3_replayUpTo 10 = .ok (.istore_n 3, 1) := by decide +kernel
theorem dX3_replayUpTo_11 : decode cX3_replayUpTo 11 = .ok (.iconst 0, 1) := by decide +kernel
theorem dX3_replayUpTo_12 : decode cX3_replayUpTo 12 = .ok (.istore 4, 2) := by decide +kernel
theorem dX3_replayUpTo_14 : decode cX3_replayUpTo 14 = .ok (.iload 4, 2) := by decide +kernel
theorem dX3_replayUpTo_16 : decode cX3_replayUpTo 16 = .ok (.aload_n 0, 1) := by decide +kernel
theorem dX3_replayUpTo_17 : decode cX3_replayUpTo 17 = .ok (.getfield 29, 3) := by decide +kernel
theorem dX3_replayUpTo_20 : decode cX3_replayUpTo 20 = .ok (.invokeinterface 141 1, 5) := by decide +kernel
theorem dX3_replayUpTo_25 : decode cX3_replayUpTo 25 = .ok (.if_icmp .ge 52, 3) := by decide +kernel
theorem dX3_replayUpTo_28 : decode cX3_replayUpTo 28 = .ok (.iload_n 3, 1) := by decide +kernel
theorem dX3_replayUpTo_29 : decode cX3_replayUpTo 29 = .ok (.iload_n 1, 1) := by decide +kernel
theorem dX3_replayUpTo_30 : decode cX3_replayUpTo 30 = .ok (.if_icmp .gt 47, 3) := by decide +kernel
theorem dX3_replayUpTo_33 : decode cX3_replayUpTo 33 = .ok (.aload_n 0, 1) := by decide +kernel
theorem dX3_replayUpTo_34 : decode cX3_replayUpTo 34 = .ok (.getfield 29, 3) := by decide +kernel
theorem dX3_replayUpTo_37 : decode cX3_replayUpTo 37 = .ok (.iload 4, 2) := by decide +kernel
theorem dX3_replayUpTo_39 : decode cX3_replayUpTo 39 = .ok (.invokeinterface 148 2, 5) := by decide +kernel
theorem dX3_replayUpTo_44 : decode cX3_replayUpTo 44 = .ok (.checkcast 113, 3) := by decide +kernel
theorem dX3_replayUpTo_47 : decode cX3_replayUpTo 47 = .ok (.astore 5, 2) := by decide +kernel
theorem dX3_replayUpTo_49 : decode cX3_replayUpTo 49 = .ok (.aload_n 0, 1) := by decide +kernel
theorem dX3_replayUpTo_50 : decode cX3_replayUpTo 50 = .ok (.aload 5, 2) := by decide +kernel
theorem dX3_replayUpTo_52 : decode cX3_replayUpTo 52 = .ok (.invokevirtual 270, 3) := by decide +kernel
theorem dX3_replayUpTo_55 : decode cX3_replayUpTo 55 = .ok (.istore 6, 2) := by decide +kernel
theorem dX3_replayUpTo_57 : decode cX3_replayUpTo 57 = .ok (.aload 5, 2) := by decide +kernel
theorem dX3_replayUpTo_59 : decode cX3_replayUpTo 59 = .ok (.invokevirtual 274, 3) := by decide +kernel
theorem dX3_replayUpTo_62 : decode cX3_replayUpTo 62 = .ok (.ifCond .eq 9, 3) := by decide +kernel
theorem dX3_replayUpTo_65 : decode cX3_replayUpTo 65 = .ok (.iload 6, 2) := by decide +kernel
theorem dX3_replayUpTo_67 : decode cX3_replayUpTo 67 = .ok (.istore_n 2, 1) := by decide +kernel
theorem dX3_replayUpTo_68 : decode cX3_replayUpTo 68 = .ok (.iinc 3 1, 3) := by decide +kernel
theorem dX3_replayUpTo_71 : decode cX3_replayUpTo 71 = .ok (.iinc 4 1, 3) := by decide +kernel
theorem dX3_replayUpTo_74 : decode cX3_replayUpTo 74 = .ok (.goto (-60), 3) := by decide +kernel
theorem dX3_replayUpTo_77 : decode cX3_replayUpTo 77 = .ok (.iload_n 2, 1) := by decide +kernel
theorem dX3_replayUpTo_78 : decode cX3_replayUpTo 78 = .ok (.ireturn, 1) := by decide +kernel
theorem dX3_isSameByReplay_0 : decode cX3_isSameByReplay 0 = .ok (.aload_n 0, 1) := by decide +kernel
theorem dX3_isSameByReplay_1 : decode cX3_isSameByReplay 1 = .ok (.getfield 23, 3) := by decide +kernel
theorem dX3_isSameByReplay_4 : decode cX3_isSameByReplay 4 = .ok (.invokevirtual 267, 3) := by decide +kernel
theorem dX3_isSameByReplay_7 : decode cX3_isSameByReplay 7 = .ok (.iconst 0, 1) := by decide +kernel
theorem dX3_isSameByReplay_8 : decode cX3_isSameByReplay 8 = .ok (.istore_n 1, 1) := by decide +kernel
theorem dX3_isSameByReplay_9 : decode cX3_isSameByReplay 9 = .ok (.iload_n 1, 1) := by decide +kernel
theorem dX3_isSameByReplay_10 : decode cX3_isSameByReplay 10 = .ok (.aload_n 0, 1) := by decide +kernel
theorem dX3_isSameByReplay_11 : decode cX3_isSameByReplay 11 = .ok (.getfield 29, 3) := by decide +kernel
theorem dX3_isSameByReplay_14 : decode cX3_isSameByReplay 14 = .ok (.invokeinterface 141 1, 5) := by decide +kernel
theorem dX3_isSameByReplay_19 : decode cX3_isSameByReplay 19 = .ok (.if_icmp .ge 76, 3) := by decide +kernel
theorem dX3_isSameByReplay_22 : decode cX3_isSameByReplay 22 = .ok (.aload_n 0, 1) := by decide +kernel
theorem dX3_isSameByReplay_23 : decode cX3_isSameByReplay 23 = .ok (.getfield 29, 3) := by decide +kernel
theorem dX3_isSameByReplay_26 : decode cX3_isSameByReplay 26 = .ok (.iload_n 1, 1) := by decide +kernel
theorem dX3_isSameByReplay_27 : decode cX3_isSameByReplay 27 = .ok (.invokeinterface 148 2, 5) := by decide +kernel
theorem dX3_isSameByReplay_32 : decode cX3_isSameByReplay 32 = .ok (.checkcast 113, 3) := by decide +kernel
theorem dX3_isSameByReplay_35 : decode cX3_isSameByReplay 35 = .ok (.astore_n 2, 1) := by decide +kernel
theorem dX3_isSameByReplay_36 : decode cX3_isSameByReplay 36 = .ok (.aload_n 2, 1) := by decide +kernel
theorem dX3_isSameByReplay_37 : decode cX3_isSameByReplay 37 = .ok (.invokevirtual 274, 3) := by decide +kernel
theorem dX3_isSameByReplay_40 : decode cX3_isSameByReplay 40 = .ok (.ifCond .eq 35, 3) := by decide +kernel
theorem dX3_isSameByReplay_43 : decode cX3_isSameByReplay 43 = .ok (.aload_n 2, 1) := by decide +kernel
theorem dX3_isSameByReplay_44 : decode cX3_isSameByReplay 44 = .ok (.getfield 159, 3) := by decide +kernel
theorem dX3_isSameByReplay_47 : decode cX3_isSameByReplay 47 = .ok (.aload_n 0, 1) := by decide +kernel
theorem dX3_isSameByReplay_48 : decode cX3_isSameByReplay 48 = .ok (.getfield 23, 3) := by decide +kernel
theorem dX3_isSameByReplay_51 : decode cX3_isSameByReplay 51 = .ok (.aload_n 2, 1) := by decide +kernel
theorem dX3_isSameByReplay_52 : decode cX3_isSameByReplay 52 = .ok (.getfield 207, 3) := by decide +kernel
theorem dX3_isSameByReplay_55 : decode cX3_isSameByReplay 55 = .ok (.aload_n 2, 1) := by decide +kernel
theorem dX3_isSameByReplay_56 : decode cX3_isSameByReplay 56 = .ok (.getfield 195, 3) := by decide +kernel
theorem dX3_isSameByReplay_59 : decode cX3_isSameByReplay 59 = .ok (.aload_n 2, 1) := by decide +kernel
theorem dX3_isSameByReplay_60 : decode cX3_isSameByReplay 60 = .ok (.getfield 277, 3) := by decide +kernel
theorem dX3_isSameByReplay_63 : decode cX3_isSameByReplay 63 = .ok (.aload_n 2, 1) := by decide +kernel
theorem dX3_isSameByReplay_64 : decode cX3_isSameByReplay 64 = .ok (.invokevirtual 280, 3) := by decide +kernel
theorem dX3_isSameByReplay_67 : decode cX3_isSameByReplay 67 = .ok (.invokevirtual 256, 3) := by decide +kernel
theorem dX3_isSameByReplay_70 : decode cX3_isSameByReplay 70 = .ok (.if_icmp .eq 5, 3) := by decide +kernel
theorem dX3_isSameByReplay_73 : decode cX3_isSameByReplay 73 = .ok (.iconst 0, 1) := by decide +kernel
theorem dX3_isSameByReplay_74 : decode cX3_isSameByReplay 74 = .ok (.ireturn, 1) := by decide +kernel
theorem dX3_isSameByReplay_75 : decode cX3_isSameByReplay 75 = .ok (.aload_n 2, 1) := by decide +kernel
theorem dX3_isSameByReplay_76 : decode cX3_isSameByReplay 76 = .ok (.getfield 152, 3) := by decide +kernel
theorem dX3_isSameByReplay_79 : decode cX3_isSameByReplay 79 = .ok (.aload_n 0, 1) := by decide +kernel
theorem dX3_isSameByReplay_80 : decode cX3_isSameByReplay 80 = .ok (.aload_n 2, 1) := by decide +kernel
theorem dX3_isSameByReplay_81 : decode cX3_isSameByReplay 81 = .ok (.invokevirtual 270, 3) := by decide +kernel
theorem dX3_isSameByReplay_84 : decode cX3_isSameByReplay 84 = .ok (.if_icmp .eq 5, 3) := by decide +kernel
theorem dX3_isSameByReplay_87 : decode cX3_isSameByReplay 87 = .ok (.iconst 0, 1) := by decide +kernel
theorem dX3_isSameByReplay_88 : decode cX3_isSameByReplay 88 = .ok (.ireturn, 1) := by decide +kernel
theorem dX3_isSameByReplay_89 : decode cX3_isSameByReplay 89 = .ok (.iinc 1 1, 3) := by decide +kernel
theorem dX3_isSameByReplay_92 : decode cX3_isSameByReplay 92 = .ok (.goto (-83), 3) := by decide +kernel
theorem dX3_isSameByReplay_95 : decode cX3_isSameByReplay 95 = .ok (.aload_n 0, 1) := by decide +kernel
theorem dX3_isSameByReplay_96 : decode cX3_isSameByReplay 96 = .ok (.getfield 23, 3) := by decide +kernel
theorem dX3_isSameByReplay_99 : decode cX3_isSameByReplay 99 = .ok (.aload_n 0, 1) := by decide +kernel
theorem dX3_isSameByReplay_100 : decode cX3_isSameByReplay 100 = .ok (.getfield 19, 3) := by decide +kernel
theorem dX3_isSameByReplay_103 : decode cX3_isSameByReplay 103 = .ok (.invokevirtual 283, 3) := by decide +kernel
theorem dX3_isSameByReplay_106 : decode cX3_isSameByReplay 106 = .ok (.ireturn, 1) := by decide +kernel
theorem dX3_replay_0 : decode cX3_replay 0 = .ok (.aload_n 1, 1) := by decide +kernel
theorem dX3_replay_1 : decode cX3_replay 1 = .ok (.invokevirtual 274, 3) := by decide +kernel
theorem dX3_replay_4 : decode cX3_replay 4 = .ok (.ifCond .eq 27, 3) := by decide +kernel
theorem dX3_replay_7 : decode cX3_replay 7 = .ok (.aload_n 0, 1) := by decide +kernel
theorem dX3_replay_8 : decode cX3_replay 8 = .ok (.getfield 23, 3) := by decide +kernel
theorem dX3_replay_11 : decode cX3_replay 11 = .ok (.aload_n 1, 1) := by decide +kernel
theorem dX3_replay_12 : decode cX3_replay 12 = .ok (.getfield 207, 3) := by decide +kernel
theorem dX3_replay_15 : decode cX3_replay 15 = .ok (.aload_n 1, 1) := by decide +kernel
theorem dX3_replay_16 : decode cX3_replay 16 = .ok (.getfield 195, 3) := by decide +kernel
theorem dX3_replay_19 : decode cX3_replay 19 = .ok (.aload_n 1, 1) := by decide +kernel
theorem dX3_replay_20 : decode cX3_replay 20 = .ok (.getfield 277, 3) := by decide +kernel
theorem dX3_replay_23 : decode cX3_replay 23 = .ok (.aload_n 1, 1) := by decide +kernel
theorem dX3_replay_24 : decode cX3_replay 24 = .ok (.invokevirtual 280, 3) := by decide +kernel
theorem dX3_replay_27 : decode cX3_replay 27 = .ok (.invokevirtual 260, 3) := by decide +kernel
theorem dX3_replay_30 : decode cX3_replay 30 = .ok (.ireturn, 1) := by decide +kernel
theorem dX3_replay_31 : decode cX3_replay 31 = .ok (.aload_n 1, 1) := by decide +kernel
theorem dX3_replay_32 : decode cX3_replay 32 = .ok (.getfield 287, 3) := by decide +kernel
theorem dX3_replay_35 : decode cX3_replay 35 = .ok (.iconst 2, 1) := by decide +kernel
theorem dX3_replay_36 : decode cX3_replay 36 = .ok (.if_icmp .ne 18, 3) := by decide +kernel
theorem dX3_replay_39 : decode cX3_replay 39 = .ok (.aload_n 0, 1) := by decide +kernel
theorem dX3_replay_40 : decode cX3_replay 40 = .ok (.getfield 23, 3) := by decide +kernel
theorem dX3_replay_43 : decode cX3_replay 43 = .ok (.aload_n 1, 1) := by decide +kernel
theorem dX3_replay_44 : decode cX3_replay 44 = .ok (.getfield 207, 3) := by decide +kernel
theorem dX3_replay_47 : decode cX3_replay 47 = .ok (.invokevirtual 131, 3) := by decide +kernel
theorem dX3_replay_50 : decode cX3_replay 50 = .ok (.pop, 1) := by decide +kernel
theorem dX3_replay_51 : decode cX3_replay 51 = .ok (.goto 27, 3) := by decide +kernel
theorem dX3_replay_54 : decode cX3_replay 54 = .ok (.aload_n 0, 1) := by decide +kernel
theorem dX3_replay_55 : decode cX3_replay 55 = .ok (.getfield 23, 3) := by decide +kernel
theorem dX3_replay_58 : decode cX3_replay 58 = .ok (.aload_n 1, 1) := by decide +kernel
theorem dX3_replay_59 : decode cX3_replay 59 = .ok (.getfield 207, 3) := by decide +kernel
theorem dX3_replay_62 : decode cX3_replay 62 = .ok (.aload_n 1, 1) := by decide +kernel
theorem dX3_replay_63 : decode cX3_replay 63 = .ok (.getfield 287, 3) := by decide +kernel
theorem dX3_replay_66 : decode cX3_replay 66 = .ok (.iconst 3, 1) := by decide +kernel
theorem dX3_replay_67 : decode cX3_replay 67 = .ok (.if_icmp .ne 7, 3) := by decide +kernel
theorem dX3_replay_70 : decode cX3_replay 70 = .ok (.iconst 1, 1) := by decide +kernel
theorem dX3_replay_71 : decode cX3_replay 71 = .ok (.goto 4, 3) := by decide +kernel
theorem dX3_replay_74 : decode cX3_replay 74 = .ok (.iconst 0, 1) := by decide +kernel
theorem dX3_replay_75 : decode cX3_replay 75 = .ok (.invokevirtual 137, 3) := by decide +kernel
theorem dX3_replay_78 : decode cX3_replay 78 = .ok (.iconst 0, 1) := by decide +kernel
theorem dX3_replay_79 : decode cX3_replay 79 = .ok (.ireturn, 1) := by decide +kernel
theorem dX4_init_0 : decode cX4_init 0 = .ok (.aload_n 0, 1) := by decide +kernel
theorem dX4_init_1 : decode cX4_init 1 = .ok (.invokespecial 1, 3) := by decide +kernel
theorem dX4_init_4 : decode cX4_init 4 = .ok (.aload_n 0, 1) := by decide +kernel
theorem dX4_init_5 : decode cX4_init 5 = .ok (.bipush 12, 2) := by decide +kernel
theorem dX4_init_7 : decode cX4_init 7 = .ok (.newarray .int, 2) := by decide +kernel
theorem dX4_init_9 : decode cX4_init 9 = .ok (.putfield 7, 3) := by decide +kernel
theorem dX4_init_12 : decode cX4_init 12 = .ok (.aload_n 0, 1) := by decide +kernel
theorem dX4_init_13 : decode cX4_init 13 = .ok (.bipush 12, 2) := by decide +kernel
theorem dX4_init_15 : decode cX4_init 15 = .ok (.newarray .int, 2) := by decide +kernel
theorem dX4_init_17 : decode cX4_init 17 = .ok (.putfield 13, 3) := by decide +kernel
theorem dX4_init_20 : decode cX4_init 20 = .ok (.aload_n 0, 1) := by decide +kernel
theorem dX4_init_21 : decode cX4_init 21 = .ok (.sipush 256, 3) := by decide +kernel
theorem dX4_init_24 : decode cX4_init 24 = .ok (.newarray .char, 2) := by decide +kernel
theorem dX4_init_26 : decode cX4_init 26 = .ok (.putfield 16, 3) := by decide +kernel
theorem dX4_init_29 : decode cX4_init 29 = .ok (.aload_n 0, 1) := by decide +kernel
theorem dX4_init_30 : decode cX4_init 30 = .ok (.sipush 256, 3) := by decide +kernel
theorem dX4_init_33 : decode cX4_init 33 = .ok (.newarray .int, 2) := by decide +kernel
theorem dX4_init_35 : decode cX4_init 35 = .ok (.putfield 20, 3) := by decide +kernel
theorem dX4_init_38 : decode cX4_init 38 = .ok (.aload_n 0, 1) := by decide +kernel
theorem dX4_init_39 : decode cX4_init 39 = .ok (.sipush 256, 3) := by decide +kernel
theorem dX4_init_42 : decode cX4_init 42 = .ok (.newarray .int, 2) := by decide +kernel
theorem dX4_init_44 : decode cX4_init 44 = .ok (.putfield 23, 3) := by decide +kernel
theorem dX4_init_47 : decode cX4_init 47 = .ok (.aload_n 0, 1) := by decide +kernel
theorem dX4_init_48 : decode cX4_init 48 = .ok (.sipush 256, 3) := by decide +kernel
theorem dX4_init_51 : decode cX4_init 51 = .ok (.newarray .boolean, 2) := by decide +kernel
theorem dX4_init_53 : decode cX4_init 53 = .ok (.putfield 26, 3) := by decide +kernel
theorem dX4_init_56 : decode cX4_init 56 = .ok (.aload_n 0, 1) := by decide +kernel
theorem dX4_init_57 : decode cX4_init 57 = .ok (.iconst 4, 1) := by decide +kernel
theorem dX4_init_58 : decode cX4_init 58 = .ok (.newarray .boolean, 2) := by decide +kernel
theorem dX4_init_60 : decode cX4_init 60 = .ok (.putfield 30, 3) := by decide +kernel
theorem dX4_init_63 : decode cX4_init 63 = .ok (.aload_n 0, 1) := by decide +kernel
theorem dX4_init_64 : decode cX4_init 64 = .ok (.iconst 4, 1) := by decide +kernel
theorem dX4_init_65 : decode cX4_init 65 = .ok (.newarray .int, 2) := by decide +kernel
theorem dX4_init_67 : decode cX4_init 67 = .ok (.putfield 33, 3) := by decide +kernel
theorem dX4_init_70 : decode cX4_init 70 = .ok (.aload_n 0, 1) := by decide +kernel
theorem dX4_init_71 : decode cX4_init 71 = .ok (.iconst 4, 1) := by decide +kernel
theorem dX4_init_72 : decode cX4_init 72 = .ok (.newarray .int, 2) := by decide +kernel
theorem dX4_init_74 : decode cX4_init 74 = .ok (.putfield 36, 3) := by decide +kernel
theorem dX4_init_77 : decode cX4_init 77 = .ok (.aload_n 0, 1) := by decide +kernel
theorem dX4_init_78 : decode cX4_init 78 = .ok (.iconst 4, 1) := by decide +kernel
theorem dX4_init_79 : decode cX4_init 79 = .ok (.newarray .int, 2) := by decide +kernel
theorem dX4_init_81 : decode cX4_init 81 = .ok (.putfield 39, 3) := by decide +kernel
theorem dX4_init_84 : decode cX4_init 84 = .ok (.aload_n 0, 1) := by decide +kernel
theorem dX4_init_85 : decode cX4_init 85 = .ok (.iconst 4, 1) := by decide +kernel
theorem dX4_init_86 : decode cX4_init 86 = .ok (.newarray .int, 2) := by decide +kernel
theorem dX4_init_88 : decode cX4_init 88 = .ok (.putfield 42, 3) := by decide +kernel
theorem dX4_init_91 : decode cX4_init 91 = .ok (.aload_n 0, 1) := by decide +kernel
theorem dX4_init_92 : decode cX4_init 92 = .ok (.iconst 4, 1) := by decide +kernel
theorem dX4_init_93 : decode cX4_init 93 = .ok (.newarray .int, 2) := by decide +kernel
theorem dX4_init_95 : decode cX4_init 95 = .ok (.putfield 45, 3) := by decide +kernel
theorem dX4_init_98 : decode cX4_init 98 = .ok (.aload_n 0, 1) := by decide +kernel
theorem dX4_init_99 : decode cX4_init 99 = .ok (.iconst 4, 1) := by decide +kernel
theorem dX4_init_100 : decode cX4_init 100 = .ok (.newarray .int, 2) := by decide +kernel
theorem dX4_init_102 : decode cX4_init 102 = .ok (.putfield 48, 3) := by decide +kernel
theorem dX4_init_105 : decode cX4_init 105 = .ok (.aload_n 0, 1) := by decide +kernel
theorem dX4_init_106 : decode cX4_init 106 = .ok (.bipush 64, 2) := by decide +kernel
theorem dX4_init_108 : decode cX4_init 108 = .ok (.newarray .int, 2) := by decide +kernel
theorem dX4_init_110 : decode cX4_init 110 = .ok (.putfield 51, 3) := by decide +kernel
theorem dX4_init_113 : decode cX4_init 113 = .ok (.aload_n 0, 1) := by decide +kernel
theorem dX4_init_114 : decode cX4_init 114 = .ok (.bipush 64, 2) := by decide +kernel
theorem dX4_init_116 : decode cX4_init 116 = .ok (.newarray .int, 2) := by decide +kernel
theorem dX4_init_118 : decode cX4_init 118 = .ok (.putfield 54, 3) := by decide +kernel
theorem dX4_init_121 : decode cX4_init 121 = .ok (.aload_n 0, 1) := by decide +kernel
theorem dX4_init_122 : decode cX4_init 122 = .ok (.bipush 64, 2) := by decide +kernel
theorem dX4_init_124 : decode cX4_init 124 = .ok (.newarray .int, 2) := by decide +kernel
theorem dX4_init_126 : decode cX4_init 126 = .ok (.putfield 57, 3) := by decide +kernel
theorem dX4_init_129 : decode cX4_init 129 = .ok (.aload_n 0, 1) := by decide +kernel
theorem dX4_init_130 : decode cX4_init 130 = .ok (.bipush 64, 2) := by decide +kernel
theorem dX4_init_132 : decode cX4_init 132 = .ok (.newarray .char, 2) := by decide +kernel
theorem dX4_init_134 : decode cX4_init 134 = .ok (.putfield 60, 3) := by decide +kernel
theorem dX4_init_137 : decode cX4_init 137 = .ok (.aload_n 0, 1) := by decide +kernel
theorem dX4_init_138 : decode cX4_init 138 = .ok (.iconst 0, 1) := by decide +kernel
theorem dX4_init_139 : decode cX4_init 139 = .ok (.putfield 63, 3) := by decide +kernel
theorem dX4_init_142 : decode cX4_init 142 = .ok (.aload_n 0, 1) := by decide +kernel
theorem dX4_init_143 : decode cX4_init 143 = .ok (.iconst 0, 1) := by decide +kernel
theorem dX4_init_144 : decode cX4_init 144 = .ok (.putfield 67, 3) := by decide +kernel
theorem dX4_init_147 : decode cX4_init 147 = .ok (.aload_n 0, 1) := by decide +kernel
theorem dX4_init_148 : decode cX4_init 148 = .ok (.iconst 0, 1) := by decide +kernel
theorem dX4_init_149 : decode cX4_init 149 = .ok (.putfield 70, 3) := by decide +kernel
theorem dX4_init_152 : decode cX4_init 152 = .ok (.aload_n 0, 1) := by decide +kernel
theorem dX4_init_153 : decode cX4_init 153 = .ok (.iconst 0, 1) := by decide +kernel
theorem dX4_init_154 : decode cX4_init 154 = .ok (.putfield 73, 3) := by decide +kernel
theorem dX4_init_157 : decode cX4_init 157 = .ok (.iconst 0, 1) := by decide +kernel
theorem dX4_init_158 : decode cX4_init 158 = .ok (.istore_n 1, 1) := by decide +kernel
theorem dX4_init_159 : decode cX4_init 159 = .ok (.iload_n 1, 1) := by decide +kernel
theorem dX4_init_160 : decode cX4_init 160 = .ok (.bipush 12, 2) := by decide +kernel
theorem dX4_init_162 : decode cX4_init 162 = .ok (.if_icmp .ge 16, 3) := by decide +kernel
theorem dX4_init_165 : decode cX4_init 165 = .ok (.aload_n 0, 1) := by decide +kernel
theorem dX4_init_166 : decode cX4_init 166 = .ok (.getfield 13, 3) := by decide +kernel
theorem dX4_init_169 : decode cX4_init 169 = .ok (.iload_n 1, 1) := by decide +kernel
theorem dX4_init_170 : decode cX4_init 170 = .ok (.iconst (-1), 1) := by decide +kernel
theorem dX4_init_171 : decode cX4_init 171 = .ok (.iastore, 1) := by decide +kernel
theorem dX4_init_172 : decode cX4_init 172 = .ok (.iinc 1 1, 3) := by decide +kernel
theorem dX4_init_175 : decode cX4_init 175 = .ok (.goto (-16), 3) := by decide +kernel
theorem dX4_init_178 : decode cX4_init 178 = .ok (.iconst 0, 1) := by decide +kernel
theorem dX4_init_179 : decode cX4_init 179 = .ok (.istore_n 1, 1) := by decide +kernel
theorem dX4_init_180 : decode cX4_init 180 = .ok (.iload_n 1, 1) := by decide +kernel
theorem dX4_init_181 : decode cX4_init 181 = .ok (.sipush 256, 3) := by decide +kernel
theorem dX4_init_184 : decode cX4_init 184 = .ok (.if_icmp .ge 24, 3) := by decide +kernel
theorem dX4_init_187 : decode cX4_init 187 = .ok (.aload_n 0, 1) := by decide +kernel
theorem dX4_init_188 : decode cX4_init 188 = .ok (.getfield 16, 3) := by decide +kernel
theorem dX4_init_191 : decode cX4_init 191 = .ok (.iload_n 1, 1) := by decide +kernel
theorem dX4_init_192 : decode cX4_init 192 = .ok (.bipush 45, 2) := by decide +kernel
theorem dX4_init_194 : decode cX4_init 194 = .ok (.castore, 1) := by decide +kernel
theorem dX4_init_195 : decode cX4_init 195 = .ok (.aload_n 0, 1) := by decide +kernel
theorem dX4_init_196 : decode cX4_init 196 = .ok (.getfield 23, 3) := by decide +kernel
theorem dX4_init_199 : decode cX4_init 199 = .ok (.iload_n 1, 1) := by decide +kernel
theorem dX4_init_200 : decode cX4_init 200 = .ok (.iconst (-1), 1) := by decide +kernel
theorem dX4_init_201 : decode cX4_init 201 = .ok (.iastore, 1) := by decide +kernel
theorem dX4_init_202 : decode cX4_init 202 = .ok (.iinc 1 1, 3) := by decide +kernel
theorem dX4_init_205 : decode cX4_init 205 = .ok (.goto (-25), 3) := by decide +kernel
theorem dX4_init_208 : decode cX4_init 208 = .ok (.return_, 1) := by decide +kernel
theorem dX4_thrown_0 : decode cX4_thrown 0 = .ok (.aload_n 0, 1) := by decide +kernel
theorem dX4_thrown_1 : decode cX4_thrown 1 = .ok (.getfield 63, 3) := by decide +kernel
theorem dX4_thrown_4 : decode cX4_thrown 4 = .ok (.ireturn, 1) := by decide +kernel
theorem dX4_in_0 : decode cX4_in 0 = .ok (.iload_n 0, 1) := by decide +kernel
theorem dX4_in_1 : decode cX4_in 1 = .ok (.iload_n 1, 1) := by decide +kernel
theorem dX4_in_2 : decode cX4_in 2 = .ok (.if_icmp .lt 12, 3) := by decide +kernel
theorem dX4_in_5 : decode cX4_in 5 = .ok (.iload_n 0, 1) := by decide +kernel
theorem dX4_in_6 : decode cX4_in 6 = .ok (.iload_n 2, 1) := by decide +kernel
theorem dX4_in_7 : decode cX4_in 7 = .ok (.if_icmp .gt 7, 3) := by decide +kernel
theorem dX4_in_10 : decode cX4_in 10 = .ok (.iconst 1, 1) := by decide +kernel
theorem dX4_in_11 : decode cX4_in 11 = .ok (.goto 4, 3) := by decide +kernel
theorem dX4_in_14 : decode cX4_in 14 = .ok (.iconst 0, 1) := by decide +kernel
theorem dX4_in_15 : decode cX4_in 15 = .ok (.ireturn, 1) := by decide +kernel
theorem dX4_checked_0 : decode cX4_checked 0 = .ok (.aload_n 0, 1) := by decide +kernel
theorem dX4_checked_1 : decode cX4_checked 1 = .ok (.iload_n 1, 1) := by decide +kernel
theorem dX4_checked_2 : decode cX4_checked 2 = .ok (.ifCond .eq 7, 3) := by decide +kernel
theorem dX4_checked_5 : decode cX4_checked 5 = .ok (.iconst 0, 1) := by decide +kernel
theorem dX4_checked_6 : decode cX4_checked 6 = .ok (.goto 4, 3) := by decide +kernel
theorem dX4_checked_9 : decode cX4_checked 9 = .ok (.iconst 1, 1) := by decide +kernel
theorem dX4_checked_10 : decode cX4_checked 10 = .ok (.putfield 63, 3) := by decide +kernel
theorem dX4_checked_13 : decode cX4_checked 13 = .ok (.aload_n 0, 1) := by decide +kernel
theorem dX4_checked_14 : decode cX4_checked 14 = .ok (.getfield 63, 3) := by decide +kernel
theorem dX4_checked_17 : decode cX4_checked 17 = .ok (.ireturn, 1) := by decide +kernel
theorem dX4_isName_0 : decode cX4_isName 0 = .ok (.iload_n 1, 1) := by decide +kernel
theorem dX4_isName_1 : decode cX4_isName 1 = .ok (.iconst 0, 1) := by decide +kernel
theorem dX4_isName_2 : decode cX4_isName 2 = .ok (.aload_n 0, 1) := by decide +kernel
theorem dX4_isName_3 : decode cX4_isName 3 = .ok (.getfield 67, 3) := by decide +kernel
theorem dX4_isName_6 : decode cX4_isName 6 = .ok (.iconst 1, 1) := by decide +kernel
theorem dX4_isName_7 : decode cX4_isName 7 = .ok (.isub, 1) := by decide +kernel
theorem dX4_isName_8 : decode cX4_isName 8 = .ok (.invokestatic 76, 3) := by decide +kernel
theorem dX4_isName_11 : decode cX4_isName 11 = .ok (.ireturn, 1) := by decide +kernel
theorem dX4_isCore_0 : decode cX4_isCore 0 = .ok (.iload_n 0, 1) := by decide +kernel
theorem dX4_isCore_1 : decode cX4_isCore 1 = .ok (.iconst 0, 1) := by decide +kernel
theorem dX4_isCore_2 : decode cX4_isCore 2 = .ok (.iconst 3, 1) := by decide +kernel
theorem dX4_isCore_3 : decode cX4_isCore 3 = .ok (.invokestatic 76, 3) := by decide +kernel
theorem dX4_isCore_6 : decode cX4_isCore 6 = .ok (.ireturn, 1) := by decide +kernel
theorem dX4_at_0 : decode cX4_at 0 = .ok (.bipush 64, 2) := by decide +kernel
theorem dX4_at_2 : decode cX4_at 2 = .ok (.iload_n 0, 1) := by decide +kernel
theorem dX4_at_3 : decode cX4_at 3 = .ok (.imul, 1) := by decide +kernel
theorem dX4_at_4 : decode cX4_at 4 = .ok (.iload_n 1, 1) := by decide +kernel
theorem dX4_at_5 : decode cX4_at 5 = .ok (.iadd, 1) := by decide +kernel
theorem dX4_at_6 : decode cX4_at 6 = .ok (.ireturn, 1) := by decide +kernel
theorem dX4_addName_0 : decode cX4_addName 0 = .ok (.aload_n 0, 1) := by decide +kernel
theorem dX4_addName_1 : decode cX4_addName 1 = .ok (.iload_n 1, 1) := by decide +kernel
theorem dX4_addName_2 : decode cX4_addName 2 = .ok (.iconst 1, 1) := by decide +kernel
theorem dX4_addName_3 : decode cX4_addName 3 = .ok (.bipush 32, 2) := by decide +kernel
theorem dX4_addName_5 : decode cX4_addName 5 = .ok (.invokestatic 76, 3) := by decide +kernel
theorem dX4_addName_8 : decode cX4_addName 8 = .ok (.ifCond .ne 7, 3) := by decide +kernel
theorem dX4_addName_11 : decode cX4_addName 11 = .ok (.iconst 1, 1) := by decide +kernel
theorem dX4_addName_12 : decode cX4_addName 12 = .ok (.goto 17, 3) := by decide +kernel
theorem dX4_addName_15 : decode cX4_addName 15 = .ok (.aload_n 0, 1) := by decide +kernel
theorem dX4_addName_16 : decode cX4_addName 16 = .ok (.getfield 67, 3) := by decide +kernel
theorem dX4_addName_19 : decode cX4_addName 19 = .ok (.bipush 12, 2) := by decide +kernel
theorem dX4_addName_21 : decode cX4_addName 21 = .ok (.if_icmp .ne 7, 3) := by decide +kernel
theorem dX4_addName_24 : decode cX4_addName 24 = .ok (.iconst 2, 1) := by decide +kernel
theorem dX4_addName_25 : decode cX4_addName 25 = .ok (.goto 4, 3) := by decide +kernel
theorem dX4_addName_28 : decode cX4_addName 28 = .ok (.iconst 0, 1) := by decide +kernel
theorem dX4_addName_29 : decode cX4_addName 29 = .ok (.putfield 63, 3) := by decide +kernel
theorem dX4_addName_32 : decode cX4_addName 32 = .ok (.aload_n 0, 1) := by decide +kernel
theorem dX4_addName_33 : decode cX4_addName 33 = .ok (.getfield 63, 3) := by decide +kernel
theorem dX4_addName_36 : decode cX4_addName 36 = .ok (.ifCond .le 5, 3) := by decide +kernel
theorem dX4_addName_39 : decode cX4_addName 39 = .ok (.iconst 0, 1) := by decide +kernel
theorem dX4_addName_40 : decode cX4_addName 40 = .ok (.ireturn, 1) := by decide +kernel
theorem dX4_addName_41 : decode cX4_addName 41 = .ok (.aload_n 0, 1) := by decide +kernel
theorem dX4_addName_42 : decode cX4_addName 42 = .ok (.getfield 7, 3) := by decide +kernel
theorem dX4_addName_45 : decode cX4_addName 45 = .ok (.aload_n 0, 1) := by decide +kernel
theorem dX4_addName_46 : decode cX4_addName 46 = .ok (.getfield 67, 3) := by decide +kernel
theorem dX4_addName_49 : decode cX4_addName 49 = .ok (.iload_n 1, 1) := by decide +kernel
theorem dX4_addName_50 : decode cX4_addName 50 = .ok (.iastore, 1) := by decide +kernel
theorem dX4_addName_51 : decode cX4_addName 51 = .ok (.aload_n 0, 1) := by decide +kernel
theorem dX4_addName_52 : decode cX4_addName 52 = .ok (.dup, 1) := by decide +kernel
theorem dX4_addName_53 : decode cX4_addName 53 = .ok (.getfield 67, 3) := by decide +kernel
theorem dX4_addName_56 : decode cX4_addName 56 = .ok (.iconst 1, 1) := by decide +kernel
theorem dX4_addName_57 : decode cX4_addName 57 = .ok (.iadd, 1) := by decide +kernel
theorem dX4_addName_58 : decode cX4_addName 58 = .ok (.putfield 67, 3) := by decide +kernel
theorem dX4_addName_61 : decode cX4_addName 61 = .ok (.aload_n 0, 1) := by decide +kernel
theorem dX4_addName_62 : decode cX4_addName 62 = .ok (.getfield 67, 3) := by decide +kernel
theorem dX4_addName_65 : decode cX4_addName 65 = .ok (.iconst 1, 1) := by decide +kernel
theorem dX4_addName_66 : decode cX4_addName 66 = .ok (.isub, 1) := by decide +kernel
theorem dX4_addName_67 : decode cX4_addName 67 = .ok (.ireturn, 1) := by decide +kernel
theorem dX4_nameOn_0 : decode cX4_nameOn 0 = .ok (.iconst 0, 1) := by decide +kernel
theorem dX4_nameOn_1 : decode cX4_nameOn 1 = .ok (.istore_n 2, 1) := by decide +kernel
theorem dX4_nameOn_2 : decode cX4_nameOn 2 = .ok (.iload_n 2, 1) := by decide +kernel
theorem dX4_nameOn_3 : decode cX4_nameOn 3 = .ok (.aload_n 0, 1) := by decide +kernel
theorem dX4_nameOn_4 : decode cX4_nameOn 4 = .ok (.getfield 67, 3) := by decide +kernel
theorem dX4_nameOn_7 : decode cX4_nameOn 7 = .ok (.if_icmp .ge 48, 3) := by decide +kernel
theorem dX4_nameOn_10 : decode cX4_nameOn 10 = .ok (.aload_n 0, 1) := by decide +kernel
theorem dX4_nameOn_11 : decode cX4_nameOn 11 = .ok (.getfield 13, 3) := by decide +kernel
theorem dX4_nameOn_14 : decode cX4_nameOn 14 = .ok (.iload_n 2, 1) := by decide +kernel
theorem dX4_nameOn_15 : decode cX4_nameOn 15 = .ok (.iaload, 1) := by decide +kernel
theorem dX4_nameOn_16 : decode cX4_nameOn 16 = .ok (.ifCond .lt 33, 3) := by decide +kernel
theorem dX4_nameOn_19 : decode cX4_nameOn 19 = .ok (.iload_n 1, 1) := by decide +kernel
theorem dX4_nameOn_20 : decode cX4_nameOn 20 = .ok (.aload_n 0, 1) := by decide +kernel
theorem dX4_nameOn_21 : decode cX4_nameOn 21 = .ok (.getfield 13, 3) := by decide +kernel
theorem dX4_nameOn_24 : decode cX4_nameOn 24 = .ok (.iload_n 2, 1) := by decide +kernel
theorem dX4_nameOn_25 : decode cX4_nameOn 25 = .ok (.iaload, 1) := by decide +kernel
theorem dX4_nameOn_26 : decode cX4_nameOn 26 = .ok (.aload_n 0, 1) := by decide +kernel
theorem dX4_nameOn_27 : decode cX4_nameOn 27 = .ok (.getfield 13, 3) := by decide +kernel
theorem dX4_nameOn_30 : decode cX4_nameOn 30 = .ok (.iload_n 2, 1) := by decide +kernel
theorem dX4_nameOn_31 : decode cX4_nameOn 31 = .ok (.iaload, 1) := by decide +kernel
theorem dX4_nameOn_32 : decode cX4_nameOn 32 = .ok (.aload_n 0, 1) := by decide +kernel
theorem dX4_nameOn_33 : decode cX4_nameOn 33 = .ok (.getfield 7, 3) := by decide +kernel
theorem dX4_nameOn_36 : decode cX4_nameOn 36 = .ok (.iload_n 2, 1) := by decide +kernel
theorem dX4_nameOn_37 : decode cX4_nameOn 37 = .ok (.iaload, 1) := by decide +kernel
theorem dX4_nameOn_38 : decode cX4_nameOn 38 = .ok (.iadd, 1) := by decide +kernel
theorem dX4_nameOn_39 : decode cX4_nameOn 39 = .ok (.iconst 1, 1) := by decide +kernel
theorem dX4_nameOn_40 : decode cX4_nameOn 40 = .ok (.isub, 1) := by decide +kernel
theorem dX4_nameOn_41 : decode cX4_nameOn 41 = .ok (.invokestatic 76, 3) := by decide +kernel
theorem dX4_nameOn_44 : decode cX4_nameOn 44 = .ok (.ifCond .eq 5, 3) := by decide +kernel
theorem dX4_nameOn_47 : decode cX4_nameOn 47 = .ok (.iload_n 2, 1) := by decide +kernel
theorem dX4_nameOn_48 : decode cX4_nameOn 48 = .ok (.ireturn, 1) := by decide +kernel
theorem dX4_nameOn_49 : decode cX4_nameOn 49 = .ok (.iinc 2 1, 3) := by decide +kernel
theorem dX4_nameOn_52 : decode cX4_nameOn 52 = .ok (.goto (-50), 3) := by decide +kernel
theorem dX4_nameOn_55 : decode cX4_nameOn 55 = .ok (.iconst (-1), 1) := by decide +kernel
theorem dX4_nameOn_56 : decode cX4_nameOn 56 = .ok (.ireturn, 1) := by decide +kernel
theorem dX4_fits_0 : decode cX4_fits 0 = .ok (.iload_n 2, 1) := by decide +kernel
theorem dX4_fits_1 : decode cX4_fits 1 = .ok (.aload_n 0, 1) := by decide +kernel
theorem dX4_fits_2 : decode cX4_fits 2 = .ok (.getfield 7, 3) := by decide +kernel
theorem dX4_fits_5 : decode cX4_fits 5 = .ok (.iload_n 1, 1) := by decide +kernel
theorem dX4_fits_6 : decode cX4_fits 6 = .ok (.iaload, 1) := by decide +kernel
theorem dX4_fits_7 : decode cX4_fits 7 = .ok (.iadd, 1) := by decide +kernel
theorem dX4_fits_8 : decode cX4_fits 8 = .ok (.sipush 512, 3) := by decide +kernel
theorem dX4_fits_11 : decode cX4_fits 11 = .ok (.if_icmp .le 5, 3) := by decide +kernel
theorem dX4_fits_14 : decode cX4_fits 14 = .ok (.iconst 0, 1) := by decide +kernel
theorem dX4_fits_15 : decode cX4_fits 15 = .ok (.ireturn, 1) := by decide +kernel
theorem dX4_fits_16 : decode cX4_fits 16 = .ok (.iconst 0, 1) := by decide +kernel
theorem dX4_fits_17 : decode cX4_fits 17 = .ok (.istore_n 3, 1) := by decide +kernel
theorem dX4_fits_18 : decode cX4_fits 18 = .ok (.iload_n 3, 1) := by decide +kernel
theorem dX4_fits_19 : decode cX4_fits 19 = .ok (.aload_n 0, 1) := by decide +kernel
theorem dX4_fits_20 : decode cX4_fits 20 = .ok (.getfield 7, 3) := by decide +kernel
theorem dX4_fits_23 : decode cX4_fits 23 = .ok (.iload_n 1, 1) := by decide +kernel
theorem dX4_fits_24 : decode cX4_fits 24 = .ok (.iaload, 1) := by decide +kernel
theorem dX4_fits_25 : decode cX4_fits 25 = .ok (.if_icmp .ge 21, 3) := by decide +kernel
theorem dX4_fits_28 : decode cX4_fits 28 = .ok (.aload_n 0, 1) := by decide +kernel
theorem dX4_fits_29 : decode cX4_fits 29 = .ok (.iload_n 2, 1) := by decide +kernel
theorem dX4_fits_30 : decode cX4_fits 30 = .ok (.iload_n 3, 1) := by decide +kernel
theorem dX4_fits_31 : decode cX4_fits 31 = .ok (.iadd, 1) := by decide +kernel
theorem dX4_fits_32 : decode cX4_fits 32 = .ok (.invokevirtual 80, 3) := by decide +kernel
theorem dX4_fits_35 : decode cX4_fits 35 = .ok (.ifCond .lt 5, 3) := by decide +kernel
theorem dX4_fits_38 : decode cX4_fits 38 = .ok (.iconst 0, 1) := by decide +kernel
theorem dX4_fits_39 : decode cX4_fits 39 = .ok (.ireturn, 1) := by decide +kernel
theorem dX4_fits_40 : decode cX4_fits 40 = .ok (.iinc 3 1, 3) := by decide +kernel
theorem dX4_fits_43 : decode cX4_fits 43 = .ok (.goto (-25), 3) := by decide +kernel
theorem dX4_fits_46 : decode cX4_fits 46 = .ok (.iconst 1, 1) := by decide +kernel
theorem dX4_fits_47 : decode cX4_fits 47 = .ok (.ireturn, 1) := by decide +kernel
theorem dX4_place_0 : decode cX4_place 0 = .ok (.aload_n 0, 1) := by decide +kernel
theorem dX4_place_1 : decode cX4_place 1 = .ok (.aload_n 0, 1) := by decide +kernel
theorem dX4_place_2 : decode cX4_place 2 = .ok (.iload_n 1, 1) := by decide +kernel
theorem dX4_place_3 : decode cX4_place 3 = .ok (.invokevirtual 84, 3) := by decide +kernel
theorem dX4_place_6 : decode cX4_place 6 = .ok (.ifCond .ne 7, 3) := by decide +kernel
theorem dX4_place_9 : decode cX4_place 9 = .ok (.iconst 1, 1) := by decide +kernel
theorem dX4_place_10 : decode cX4_place 10 = .ok (.goto 48, 3) := by decide +kernel
theorem dX4_place_13 : decode cX4_place 13 = .ok (.iload_n 2, 1) := by decide +kernel
theorem dX4_place_14 : decode cX4_place 14 = .ok (.iconst 0, 1) := by decide +kernel
theorem dX4_place_15 : decode cX4_place 15 = .ok (.sipush 512, 3) := by decide +kernel
theorem dX4_place_18 : decode cX4_place 18 = .ok (.aload_n 0, 1) := by decide +kernel
theorem dX4_place_19 : decode cX4_place 19 = .ok (.getfield 7, 3) := by decide +kernel
theorem dX4_place_22 : decode cX4_place 22 = .ok (.iload_n 1, 1) := by decide +kernel
theorem dX4_place_23 : decode cX4_place 23 = .ok (.iaload, 1) := by decide +kernel
theorem dX4_place_24 : decode cX4_place 24 = .ok (.isub, 1) := by decide +kernel
theorem dX4_place_25 : decode cX4_place 25 = .ok (.invokestatic 76, 3) := by decide +kernel
theorem dX4_place_28 : decode cX4_place 28 = .ok (.ifCond .ne 7, 3) := by decide +kernel
theorem dX4_place_31 : decode cX4_place 31 = .ok (.iconst 2, 1) := by decide +kernel
theorem dX4_place_32 : decode cX4_place 32 = .ok (.goto 26, 3) := by decide +kernel
theorem dX4_place_35 : decode cX4_place 35 = .ok (.aload_n 0, 1) := by decide +kernel
theorem dX4_place_36 : decode cX4_place 36 = .ok (.getfield 13, 3) := by decide +kernel
theorem dX4_place_39 : decode cX4_place 39 = .ok (.iload_n 1, 1) := by decide +kernel
theorem dX4_place_40 : decode cX4_place 40 = .ok (.iaload, 1) := by decide +kernel
theorem dX4_place_41 : decode cX4_place 41 = .ok (.ifCond .ge 12, 3) := by decide +kernel
theorem dX4_place_44 : decode cX4_place 44 = .ok (.aload_n 0, 1) := by decide +kernel
theorem dX4_place_45 : decode cX4_place 45 = .ok (.iload_n 1, 1) := by decide +kernel
theorem dX4_place_46 : decode cX4_place 46 = .ok (.iload_n 2, 1) := by decide +kernel
theorem dX4_place_47 : decode cX4_place 47 = .ok (.invokevirtual 88, 3) := by decide +kernel
theorem dX4_place_50 : decode cX4_place 50 = .ok (.ifCond .ne 7, 3) := by decide +kernel
theorem dX4_place_53 : decode cX4_place 53 = .ok (.iconst 3, 1) := by decide +kernel
theorem dX4_place_54 : decode cX4_place 54 = .ok (.goto 4, 3) := by decide +kernel
theorem dX4_place_57 : decode cX4_place 57 = .ok (.iconst 0, 1) := by decide +kernel
theorem dX4_place_58 : decode cX4_place 58 = .ok (.putfield 63, 3) := by decide +kernel
theorem dX4_place_61 : decode cX4_place 61 = .ok (.aload_n 0, 1) := by decide +kernel
theorem dX4_place_62 : decode cX4_place 62 = .ok (.getfield 63, 3) := by decide +kernel
theorem dX4_place_65 : decode cX4_place 65 = .ok (.ifCond .le 5, 3) := by decide +kernel
theorem dX4_place_68 : decode cX4_place 68 = .ok (.iconst 0, 1) := by decide +kernel
theorem dX4_place_69 : decode cX4_place 69 = .ok (.ireturn, 1) := by decide +kernel
theorem dX4_place_70 : decode cX4_place 70 = .ok (.aload_n 0, 1) := by decide +kernel
theorem dX4_place_71 : decode cX4_place 71 = .ok (.getfield 13, 3) := by decide +kernel
theorem dX4_place_74 : decode cX4_place 74 = .ok (.iload_n 1, 1) := by decide +kernel
theorem dX4_place_75 : decode cX4_place 75 = .ok (.iload_n 2, 1) := by decide +kernel
theorem dX4_place_76 : decode cX4_place 76 = .ok (.iastore, 1) := by decide +kernel
theorem dX4_place_77 : decode cX4_place 77 = .ok (.iload_n 2, 1) := by decide +kernel
theorem dX4_place_78 : decode cX4_place 78 = .ok (.bipush 8, 2) := by decide +kernel
theorem dX4_place_80 : decode cX4_place 80 = .ok (.idiv, 1) := by decide +kernel
theorem dX4_place_81 : decode cX4_place 81 = .ok (.ireturn, 1) := by decide +kernel
theorem dX4_lowest_0 : decode cX4_lowest 0 = .ok (.iconst 0, 1) := by decide +kernel
theorem dX4_lowest_1 : decode cX4_lowest 1 = .ok (.istore_n 3, 1) := by decide +kernel
theorem dX4_lowest_2 : decode cX4_lowest 2 = .ok (.iload_n 3, 1) := by decide +kernel
theorem dX4_lowest_3 : decode cX4_lowest 3 = .ok (.sipush 512, 3) := by decide +kernel
theorem dX4_lowest_6 : decode cX4_lowest 6 = .ok (.if_icmp .ge 21, 3) := by decide +kernel
theorem dX4_lowest_9 : decode cX4_lowest 9 = .ok (.aload_n 0, 1) := by decide +kernel
theorem dX4_lowest_10 : decode cX4_lowest 10 = .ok (.iload_n 1, 1) := by decide +kernel
theorem dX4_lowest_11 : decode cX4_lowest 11 = .ok (.iload_n 3, 1) := by decide +kernel
theorem dX4_lowest_12 : decode cX4_lowest 12 = .ok (.invokevirtual 88, 3) := by decide +kernel
theorem dX4_lowest_15 : decode cX4_lowest 15 = .ok (.ifCond .eq 5, 3) := by decide +kernel
theorem dX4_lowest_18 : decode cX4_lowest 18 = .ok (.iload_n 3, 1) := by decide +kernel
theorem dX4_lowest_19 : decode cX4_lowest 19 = .ok (.ireturn, 1) := by decide +kernel
theorem dX4_lowest_20 : decode cX4_lowest 20 = .ok (.iload_n 3, 1) := by decide +kernel
theorem dX4_lowest_21 : decode cX4_lowest 21 = .ok (.iload_n 2, 1) := by decide +kernel
theorem dX4_lowest_22 : decode cX4_lowest 22 = .ok (.iadd, 1) := by decide +kernel
theorem dX4_lowest_23 : decode cX4_lowest 23 = .ok (.istore_n 3, 1) := by decide +kernel
theorem dX4_lowest_24 : decode cX4_lowest 24 = .ok (.goto (-22), 3) := by decide +kernel
theorem dX4_lowest_27 : decode cX4_lowest 27 = .ok (.iconst (-1), 1) := by decide +kernel
theorem dX4_lowest_28 : decode cX4_lowest 28 = .ok (.ireturn, 1) := by decide +kernel
theorem dX4_link_0 : decode cX4_link 0 = .ok (.aload_n 0, 1) := by decide +kernel
theorem dX4_link_1 : decode cX4_link 1 = .ok (.iload_n 1, 1) := by decide +kernel
theorem dX4_link_2 : decode cX4_link 2 = .ok (.iconst 1, 1) := by decide +kernel
theorem dX4_link_3 : decode cX4_link 3 = .ok (.bipush 64, 2) := by decide +kernel
theorem dX4_link_5 : decode cX4_link 5 = .ok (.invokestatic 76, 3) := by decide +kernel
theorem dX4_link_8 : decode cX4_link 8 = .ok (.invokevirtual 92, 3) := by decide +kernel
theorem dX4_link_11 : decode cX4_link 11 = .ok (.ifCond .le 5, 3) := by decide +kernel
theorem dX4_link_14 : decode cX4_link 14 = .ok (.iconst 0, 1) := by decide +kernel
theorem dX4_link_15 : decode cX4_link 15 = .ok (.ireturn, 1) := by decide +kernel
theorem dX4_link_16 : decode cX4_link 16 = .ok (.bipush 12, 2) := by decide +kernel
theorem dX4_link_18 : decode cX4_link 18 = .ok (.newarray .int, 2) := by decide +kernel
theorem dX4_link_20 : decode cX4_link 20 = .ok (.astore_n 2, 1) := by decide +kernel
theorem dX4_link_21 : decode cX4_link 21 = .ok (.iconst 0, 1) := by decide +kernel
theorem dX4_link_22 : decode cX4_link 22 = .ok (.istore_n 3, 1) := by decide +kernel
theorem dX4_link_23 : decode cX4_link 23 = .ok (.iconst 0, 1) := by decide +kernel
theorem dX4_link_24 : decode cX4_link 24 = .ok (.istore 4, 2) := by decide +kernel
theorem dX4_link_26 : decode cX4_link 26 = .ok (.iload 4, 2) := by decide +kernel
theorem dX4_link_28 : decode cX4_link 28 = .ok (.bipush 12, 2) := by decide +kernel
theorem dX4_link_30 : decode cX4_link 30 = .ok (.if_icmp .ge 20, 3) := by decide +kernel
theorem dX4_link_33 : decode cX4_link 33 = .ok (.aload_n 2, 1) := by decide +kernel
theorem dX4_link_34 : decode cX4_link 34 = .ok (.iload 4, 2) := by decide +kernel
theorem dX4_link_36 : decode cX4_link 36 = .ok (.aload_n 0, 1) := by decide +kernel
theorem dX4_link_37 : decode cX4_link 37 = .ok (.getfield 13, 3) := by decide +kernel
theorem dX4_link_40 : decode cX4_link 40 = .ok (.iload 4, 2) := by decide +kernel
theorem dX4_link_42 : decode cX4_link 42 = .ok (.iaload, 1) := by decide +kernel
theorem dX4_link_43 : decode cX4_link 43 = .ok (.iastore, 1) := by decide +kernel
theorem dX4_link_44 : decode cX4_link 44 = .ok (.iinc 4 1, 3) := by decide +kernel
theorem dX4_link_47 : decode cX4_link 47 = .ok (.goto (-21), 3) := by decide +kernel
theorem dX4_link_50 : decode cX4_link 50 = .ok (.iconst 0, 1) := by decide +kernel
theorem dX4_link_51 : decode cX4_link 51 = .ok (.istore 4, 2) := by decide +kernel
theorem dX4_link_53 : decode cX4_link 53 = .ok (.iload 4, 2) := by decide +kernel
theorem dX4_link_55 : decode cX4_link 55 = .ok (.aload_n 0, 1) := by decide +kernel
theorem dX4_link_56 : decode cX4_link 56 = .ok (.getfield 67, 3) := by decide +kernel
theorem dX4_link_59 : decode cX4_link 59 = .ok (.if_icmp .ge 61, 3) := by decide +kernel
theorem dX4_link_62 : decode cX4_link 62 = .ok (.aload_n 0, 1) := by decide +kernel
theorem dX4_link_63 : decode cX4_link 63 = .ok (.getfield 63, 3) := by decide +kernel
theorem dX4_link_66 : decode cX4_link 66 = .ok (.ifCond .ne 54, 3) := by decide +kernel
theorem dX4_link_69 : decode cX4_link 69 = .ok (.aload_n 0, 1) := by decide +kernel
theorem dX4_link_70 : decode cX4_link 70 = .ok (.getfield 13, 3) := by decide +kernel
theorem dX4_link_73 : decode cX4_link 73 = .ok (.iload 4, 2) := by decide +kernel
theorem dX4_link_75 : decode cX4_link 75 = .ok (.iaload, 1) := by decide +kernel
theorem dX4_link_76 : decode cX4_link 76 = .ok (.ifCond .lt 6, 3) := by decide +kernel
theorem dX4_link_79 : decode cX4_link 79 = .ok (.goto 35, 3) := by decide +kernel
theorem dX4_link_82 : decode cX4_link 82 = .ok (.aload_n 0, 1) := by decide +kernel
theorem dX4_link_83 : decode cX4_link 83 = .ok (.getfield 13, 3) := by decide +kernel
theorem dX4_link_86 : decode cX4_link 86 = .ok (.iload 4, 2) := by decide +kernel
theorem dX4_link_88 : decode cX4_link 88 = .ok (.aload_n 0, 1) := by decide +kernel
theorem dX4_link_89 : decode cX4_link 89 = .ok (.iload 4, 2) := by decide +kernel
theorem dX4_link_91 : decode cX4_link 91 = .ok (.iload_n 1, 1) := by decide +kernel
theorem dX4_link_92 : decode cX4_link 92 = .ok (.invokevirtual 96, 3) := by decide +kernel
theorem dX4_link_95 : decode cX4_link 95 = .ok (.iastore, 1) := by decide +kernel
theorem dX4_link_96 : decode cX4_link 96 = .ok (.aload_n 0, 1) := by decide +kernel
theorem dX4_link_97 : decode cX4_link 97 = .ok (.getfield 13, 3) := by decide +kernel
theorem dX4_link_100 : decode cX4_link 100 = .ok (.iload 4, 2) := by decide +kernel
theorem dX4_link_102 : decode cX4_link 102 = .ok (.iaload, 1) := by decide +kernel
theorem dX4_link_103 : decode cX4_link 103 = .ok (.ifCond .ge 8, 3) := by decide +kernel
theorem dX4_link_106 : decode cX4_link 106 = .ok (.aload_n 0, 1) := by decide +kernel
theorem dX4_link_107 : decode cX4_link 107 = .ok (.iconst 2, 1) := by decide +kernel
theorem dX4_link_108 : decode cX4_link 108 = .ok (.putfield 63, 3) := by decide +kernel
theorem dX4_link_111 : decode cX4_link 111 = .ok (.iinc 3 1, 3) := by decide +kernel
theorem dX4_link_114 : decode cX4_link 114 = .ok (.iinc 4 1, 3) := by decide +kernel
theorem dX4_link_117 : decode cX4_link 117 = .ok (.goto (-64), 3) := by decide +kernel
theorem dX4_link_120 : decode cX4_link 120 = .ok (.iconst 0, 1) := by decide +kernel
theorem dX4_link_121 : decode cX4_link 121 = .ok (.istore 4, 2) := by decide +kernel
theorem dX4_link_123 : decode cX4_link 123 = .ok (.iload 4, 2) := by decide +kernel
theorem dX4_link_125 : decode cX4_link 125 = .ok (.bipush 12, 2) := by decide +kernel
theorem dX4_link_127 : decode cX4_link 127 = .ok (.if_icmp .ge 27, 3) := by decide +kernel
theorem dX4_link_130 : decode cX4_link 130 = .ok (.aload_n 0, 1) := by decide +kernel
theorem dX4_link_131 : decode cX4_link 131 = .ok (.getfield 63, 3) := by decide +kernel
theorem dX4_link_134 : decode cX4_link 134 = .ok (.ifCond .le 20, 3) := by decide +kernel
theorem dX4_link_137 : decode cX4_link 137 = .ok (.aload_n 0, 1) := by decide +kernel
theorem dX4_link_138 : decode cX4_link 138 = .ok (.getfield 13, 3) := by decide +kernel
theorem dX4_link_141 : decode cX4_link 141 = .ok (.iload 4, 2) := by decide +kernel
theorem dX4_link_143 : decode cX4_link 143 = .ok (.aload_n 2, 1) := by decide +kernel
theorem dX4_link_144 : decode cX4_link 144 = .ok (.iload 4, 2) := by decide +kernel
theorem dX4_link_146 : decode cX4_link 146 = .ok (.iaload, 1) := by decide +kernel
theorem dX4_link_147 : decode cX4_link 147 = .ok (.iastore, 1) := by decide +kernel
theorem dX4_link_148 : decode cX4_link 148 = .ok (.iinc 4 1, 3) := by decide +kernel
theorem dX4_link_151 : decode cX4_link 151 = .ok (.goto (-28), 3) := by decide +kernel
theorem dX4_link_154 : decode cX4_link 154 = .ok (.aload_n 0, 1) := by decide +kernel
theorem dX4_link_155 : decode cX4_link 155 = .ok (.getfield 63, 3) := by decide +kernel
theorem dX4_link_158 : decode cX4_link 158 = .ok (.ifCond .le 7, 3) := by decide +kernel
theorem dX4_link_161 : decode cX4_link 161 = .ok (.iconst 0, 1) := by decide +kernel
theorem dX4_link_162 : decode cX4_link 162 = .ok (.goto 4, 3) := by decide +kernel
theorem dX4_link_165 : decode cX4_link 165 = .ok (.iload_n 3, 1) := by decide +kernel
theorem dX4_link_166 : decode cX4_link 166 = .ok (.ireturn, 1) := by decide +kernel
theorem dX4_take_0 : decode cX4_take 0 = .ok (.aload_n 0, 1) := by decide +kernel
theorem dX4_take_1 : decode cX4_take 1 = .ok (.aload_n 0, 1) := by decide +kernel
theorem dX4_take_2 : decode cX4_take 2 = .ok (.iload_n 1, 1) := by decide +kernel
theorem dX4_take_3 : decode cX4_take 3 = .ok (.invokevirtual 84, 3) := by decide +kernel
theorem dX4_take_6 : decode cX4_take 6 = .ok (.ifCond .ne 7, 3) := by decide +kernel
theorem dX4_take_9 : decode cX4_take 9 = .ok (.iconst 1, 1) := by decide +kernel
theorem dX4_take_10 : decode cX4_take 10 = .ok (.goto 17, 3) := by decide +kernel
theorem dX4_take_13 : decode cX4_take 13 = .ok (.aload_n 0, 1) := by decide +kernel
theorem dX4_take_14 : decode cX4_take 14 = .ok (.getfield 13, 3) := by decide +kernel
theorem dX4_take_17 : decode cX4_take 17 = .ok (.iload_n 1, 1) := by decide +kernel
theorem dX4_take_18 : decode cX4_take 18 = .ok (.iaload, 1) := by decide +kernel
theorem dX4_take_19 : decode cX4_take 19 = .ok (.ifCond .ge 7, 3) := by decide +kernel
theorem dX4_take_22 : decode cX4_take 22 = .ok (.iconst 2, 1) := by decide +kernel
theorem dX4_take_23 : decode cX4_take 23 = .ok (.goto 4, 3) := by decide +kernel
theorem dX4_take_26 : decode cX4_take 26 = .ok (.iconst 0, 1) := by decide +kernel
theorem dX4_take_27 : decode cX4_take 27 = .ok (.putfield 63, 3) := by decide +kernel
theorem dX4_take_30 : decode cX4_take 30 = .ok (.aload_n 0, 1) := by decide +kernel
theorem dX4_take_31 : decode cX4_take 31 = .ok (.getfield 63, 3) := by decide +kernel
theorem dX4_take_34 : decode cX4_take 34 = .ok (.ifCond .le 5, 3) := by decide +kernel
theorem dX4_take_37 : decode cX4_take 37 = .ok (.iconst 0, 1) := by decide +kernel
theorem dX4_take_38 : decode cX4_take 38 = .ok (.ireturn, 1) := by decide +kernel
theorem dX4_take_39 : decode cX4_take 39 = .ok (.aload_n 0, 1) := by decide +kernel
theorem dX4_take_40 : decode cX4_take 40 = .ok (.getfield 13, 3) := by decide +kernel
theorem dX4_take_43 : decode cX4_take 43 = .ok (.iload_n 1, 1) := by decide +kernel
theorem dX4_take_44 : decode cX4_take 44 = .ok (.iaload, 1) := by decide +kernel
theorem dX4_take_45 : decode cX4_take 45 = .ok (.istore_n 2, 1) := by decide +kernel
theorem dX4_take_46 : decode cX4_take 46 = .ok (.aload_n 0, 1) := by decide +kernel
theorem dX4_take_47 : decode cX4_take 47 = .ok (.getfield 13, 3) := by decide +kernel
theorem dX4_take_50 : decode cX4_take 50 = .ok (.iload_n 1, 1) := by decide +kernel
theorem dX4_take_51 : decode cX4_take 51 = .ok (.iconst (-1), 1) := by decide +kernel
theorem dX4_take_52 : decode cX4_take 52 = .ok (.iastore, 1) := by decide +kernel
theorem dX4_take_53 : decode cX4_take 53 = .ok (.iload_n 2, 1) := by decide +kernel
theorem dX4_take_54 : decode cX4_take 54 = .ok (.ireturn, 1) := by decide +kernel
theorem dX4_addressOf_0 : decode cX4_addressOf 0 = .ok (.aload_n 0, 1) := by decide +kernel
theorem dX4_addressOf_1 : decode cX4_addressOf 1 = .ok (.aload_n 0, 1) := by decide +kernel
theorem dX4_addressOf_2 : decode cX4_addressOf 2 = .ok (.iload_n 1, 1) := by decide +kernel
theorem dX4_addressOf_3 : decode cX4_addressOf 3 = .ok (.invokevirtual 84, 3) := by decide +kernel
theorem dX4_addressOf_6 : decode cX4_addressOf 6 = .ok (.ifCond .ne 7, 3) := by decide +kernel
theorem dX4_addressOf_9 : decode cX4_addressOf 9 = .ok (.iconst 1, 1) := by decide +kernel
theorem dX4_addressOf_10 : decode cX4_addressOf 10 = .ok (.goto 37, 3) := by decide +kernel
theorem dX4_addressOf_13 : decode cX4_addressOf 13 = .ok (.aload_n 0, 1) := by decide +kernel
theorem dX4_addressOf_14 : decode cX4_addressOf 14 = .ok (.getfield 13, 3) := by decide +kernel
theorem dX4_addressOf_17 : decode cX4_addressOf 17 = .ok (.iload_n 1, 1) := by decide +kernel
theorem dX4_addressOf_18 : decode cX4_addressOf 18 = .ok (.iaload, 1) := by decide +kernel
theorem dX4_addressOf_19 : decode cX4_addressOf 19 = .ok (.ifCond .ge 7, 3) := by decide +kernel
theorem dX4_addressOf_22 : decode cX4_addressOf 22 = .ok (.iconst 2, 1) := by decide +kernel
theorem dX4_addressOf_23 : decode cX4_addressOf 23 = .ok (.goto 24, 3) := by decide +kernel
theorem dX4_addressOf_26 : decode cX4_addressOf 26 = .ok (.iload_n 2, 1) := by decide +kernel
theorem dX4_addressOf_27 : decode cX4_addressOf 27 = .ok (.iconst 0, 1) := by decide +kernel
theorem dX4_addressOf_28 : decode cX4_addressOf 28 = .ok (.aload_n 0, 1) := by decide +kernel
theorem dX4_addressOf_29 : decode cX4_addressOf 29 = .ok (.getfield 7, 3) := by decide +kernel
theorem dX4_addressOf_32 : decode cX4_addressOf 32 = .ok (.iload_n 1, 1) := by decide +kernel
theorem dX4_addressOf_33 : decode cX4_addressOf 33 = .ok (.iaload, 1) := by decide +kernel
theorem dX4_addressOf_34 : decode cX4_addressOf 34 = .ok (.iconst 1, 1) := by decide +kernel
theorem dX4_addressOf_35 : decode cX4_addressOf 35 = .ok (.isub, 1) := by decide +kernel
theorem dX4_addressOf_36 : decode cX4_addressOf 36 = .ok (.invokestatic 76, 3) := by decide +kernel
theorem dX4_addressOf_39 : decode cX4_addressOf 39 = .ok (.ifCond .ne 7, 3) := by decide +kernel
theorem dX4_addressOf_42 : decode cX4_addressOf 42 = .ok (.iconst 3, 1) := by decide +kernel
theorem dX4_addressOf_43 : decode cX4_addressOf 43 = .ok (.goto 4, 3) := by decide +kernel
theorem dX4_addressOf_46 : decode cX4_addressOf 46 = .ok (.iconst 0, 1) := by decide +kernel
theorem dX4_addressOf_47 : decode cX4_addressOf 47 = .ok (.putfield 63, 3) := by decide +kernel
theorem dX4_addressOf_50 : decode cX4_addressOf 50 = .ok (.aload_n 0, 1) := by decide +kernel
theorem dX4_addressOf_51 : decode cX4_addressOf 51 = .ok (.getfield 63, 3) := by decide +kernel
theorem dX4_addressOf_54 : decode cX4_addressOf 54 = .ok (.ifCond .le 7, 3) := by decide +kernel
theorem dX4_addressOf_57 : decode cX4_addressOf 57 = .ok (.iconst 0, 1) := by decide +kernel
theorem dX4_addressOf_58 : decode cX4_addressOf 58 = .ok (.goto 11, 3) := by decide +kernel
theorem dX4_addressOf_61 : decode cX4_addressOf 61 = .ok (.aload_n 0, 1) := by decide +kernel
theorem dX4_addressOf_62 : decode cX4_addressOf 62 = .ok (.getfield 13, 3) := by decide +kernel
theorem dX4_addressOf_65 : decode cX4_addressOf 65 = .ok (.iload_n 1, 1) := by decide +kernel
theorem dX4_addressOf_66 : decode cX4_addressOf 66 = .ok (.iaload, 1) := by decide +kernel
theorem dX4_addressOf_67 : decode cX4_addressOf 67 = .ok (.iload_n 2, 1) := by decide +kernel
theorem dX4_addressOf_68 : decode cX4_addressOf 68 = .ok (.iadd, 1) := by decide +kernel
theorem dX4_addressOf_69 : decode cX4_addressOf 69 = .ok (.ireturn, 1) := by decide +kernel
theorem dX4_nameAt_0 : decode cX4_nameAt 0 = .ok (.aload_n 0, 1) := by decide +kernel
theorem dX4_nameAt_1 : decode cX4_nameAt 1 = .ok (.iload_n 1, 1) := by decide +kernel
theorem dX4_nameAt_2 : decode cX4_nameAt 2 = .ok (.iconst 0, 1) := by decide +kernel
theorem dX4_nameAt_3 : decode cX4_nameAt 3 = .ok (.sipush 511, 3) := by decide +kernel
theorem dX4_nameAt_6 : decode cX4_nameAt 6 = .ok (.invokestatic 76, 3) := by decide +kernel
theorem dX4_nameAt_9 : decode cX4_nameAt 9 = .ok (.ifCond .ne 7, 3) := by decide +kernel
theorem dX4_nameAt_12 : decode cX4_nameAt 12 = .ok (.iconst 1, 1) := by decide +kernel
theorem dX4_nameAt_13 : decode cX4_nameAt 13 = .ok (.goto 16, 3) := by decide +kernel
theorem dX4_nameAt_16 : decode cX4_nameAt 16 = .ok (.aload_n 0, 1) := by decide +kernel
theorem dX4_nameAt_17 : decode cX4_nameAt 17 = .ok (.iload_n 1, 1) := by decide +kernel
theorem dX4_nameAt_18 : decode cX4_nameAt 18 = .ok (.invokevirtual 80, 3) := by decide +kernel
theorem dX4_nameAt_21 : decode cX4_nameAt 21 = .ok (.ifCond .ge 7, 3) := by decide +kernel
theorem dX4_nameAt_24 : decode cX4_nameAt 24 = .ok (.iconst 2, 1) := by decide +kernel
theorem dX4_nameAt_25 : decode cX4_nameAt 25 = .ok (.goto 4, 3) := by decide +kernel
theorem dX4_nameAt_28 : decode cX4_nameAt 28 = .ok (.iconst 0, 1) := by decide +kernel
theorem dX4_nameAt_29 : decode cX4_nameAt 29 = .ok (.putfield 63, 3) := by decide +kernel
theorem dX4_nameAt_32 : decode cX4_nameAt 32 = .ok (.aload_n 0, 1) := by decide +kernel
theorem dX4_nameAt_33 : decode cX4_nameAt 33 = .ok (.getfield 63, 3) := by decide +kernel
theorem dX4_nameAt_36 : decode cX4_nameAt 36 = .ok (.ifCond .le 7, 3) := by decide +kernel
theorem dX4_nameAt_39 : decode cX4_nameAt 39 = .ok (.iconst 0, 1) := by decide +kernel
theorem dX4_nameAt_40 : decode cX4_nameAt 40 = .ok (.goto 8, 3) := by decide +kernel
theorem dX4_nameAt_43 : decode cX4_nameAt 43 = .ok (.aload_n 0, 1) := by decide +kernel
theorem dX4_nameAt_44 : decode cX4_nameAt 44 = .ok (.iload_n 1, 1) := by decide +kernel
theorem dX4_nameAt_45 : decode cX4_nameAt 45 = .ok (.invokevirtual 80, 3) := by decide +kernel
theorem dX4_nameAt_48 : decode cX4_nameAt 48 = .ok (.ireturn, 1) := by decide +kernel
theorem dX4_meet_0 : decode cX4_meet 0 = .ok (.aload_n 0, 1) := by decide +kernel
theorem dX4_meet_1 : decode cX4_meet 1 = .ok (.aload_n 0, 1) := by decide +kernel
theorem dX4_meet_2 : decode cX4_meet 2 = .ok (.iload_n 1, 1) := by decide +kernel
theorem dX4_meet_3 : decode cX4_meet 3 = .ok (.invokevirtual 84, 3) := by decide +kernel
theorem dX4_meet_6 : decode cX4_meet 6 = .ok (.ifCond .eq 11, 3) := by decide +kernel
theorem dX4_meet_9 : decode cX4_meet 9 = .ok (.aload_n 0, 1) := by decide +kernel
theorem dX4_meet_10 : decode cX4_meet 10 = .ok (.iload_n 2, 1) := by decide +kernel
theorem dX4_meet_11 : decode cX4_meet 11 = .ok (.invokevirtual 84, 3) := by decide +kernel
theorem dX4_meet_14 : decode cX4_meet 14 = .ok (.ifCond .ne 7, 3) := by decide +kernel
theorem dX4_meet_17 : decode cX4_meet 17 = .ok (.iconst 1, 1) := by decide +kernel
theorem dX4_meet_18 : decode cX4_meet 18 = .ok (.goto 13, 3) := by decide +kernel
theorem dX4_meet_21 : decode cX4_meet 21 = .ok (.iload_n 1, 1) := by decide +kernel
theorem dX4_meet_22 : decode cX4_meet 22 = .ok (.iload_n 2, 1) := by decide +kernel
theorem dX4_meet_23 : decode cX4_meet 23 = .ok (.if_icmp .ne 7, 3) := by decide +kernel
theorem dX4_meet_26 : decode cX4_meet 26 = .ok (.iconst 2, 1) := by decide +kernel
theorem dX4_meet_27 : decode cX4_meet 27 = .ok (.goto 4, 3) := by decide +kernel
theorem dX4_meet_30 : decode cX4_meet 30 = .ok (.iconst 0, 1) := by decide +kernel
theorem dX4_meet_31 : decode cX4_meet 31 = .ok (.putfield 63, 3) := by decide +kernel
theorem dX4_meet_34 : decode cX4_meet 34 = .ok (.aload_n 0, 1) := by decide +kernel
theorem dX4_meet_35 : decode cX4_meet 35 = .ok (.getfield 63, 3) := by decide +kernel
theorem dX4_meet_38 : decode cX4_meet 38 = .ok (.ifCond .gt 21, 3) := by decide +kernel
theorem dX4_meet_41 : decode cX4_meet 41 = .ok (.aload_n 0, 1) := by decide +kernel
theorem dX4_meet_42 : decode cX4_meet 42 = .ok (.getfield 13, 3) := by decide +kernel
theorem dX4_meet_45 : decode cX4_meet 45 = .ok (.iload_n 1, 1) := by decide +kernel
theorem dX4_meet_46 : decode cX4_meet 46 = .ok (.iaload, 1) := by decide +kernel
theorem dX4_meet_47 : decode cX4_meet 47 = .ok (.ifCond .lt 12, 3) := by decide +kernel
theorem dX4_meet_50 : decode cX4_meet 50 = .ok (.aload_n 0, 1) := by decide +kernel
theorem dX4_meet_51 : decode cX4_meet 51 = .ok (.getfield 13, 3) := by decide +kernel
theorem dX4_meet_54 : decode cX4_meet 54 = .ok (.iload_n 2, 1) := by decide +kernel
theorem dX4_meet_55 : decode cX4_meet 55 = .ok (.iaload, 1) := by decide +kernel
theorem dX4_meet_56 : decode cX4_meet 56 = .ok (.ifCond .ge 5, 3) := by decide +kernel
theorem dX4_meet_59 : decode cX4_meet 59 = .ok (.iconst 0, 1) := by decide +kernel
theorem dX4_meet_60 : decode cX4_meet 60 = .ok (.ireturn, 1) := by decide +kernel
theorem dX4_meet_61 : decode cX4_meet 61 = .ok (.aload_n 0, 1) := by decide +kernel
theorem dX4_meet_62 : decode cX4_meet 62 = .ok (.getfield 13, 3) := by decide +kernel
theorem dX4_meet_65 : decode cX4_meet 65 = .ok (.iload_n 1, 1) := by decide +kernel
theorem dX4_meet_66 : decode cX4_meet 66 = .ok (.iaload, 1) := by decide +kernel
theorem dX4_meet_67 : decode cX4_meet 67 = .ok (.bipush 8, 2) := by decide +kernel
theorem dX4_meet_69 : decode cX4_meet 69 = .ok (.idiv, 1) := by decide +kernel
theorem dX4_meet_70 : decode cX4_meet 70 = .ok (.istore_n 3, 1) := by decide +kernel
theorem dX4_meet_71 : decode cX4_meet 71 = .ok (.aload_n 0, 1) := by decide +kernel
theorem dX4_meet_72 : decode cX4_meet 72 = .ok (.getfield 13, 3) := by decide +kernel
theorem dX4_meet_75 : decode cX4_meet 75 = .ok (.iload_n 1, 1) := by decide +kernel
theorem dX4_meet_76 : decode cX4_meet 76 = .ok (.iaload, 1) := by decide +kernel
theorem dX4_meet_77 : decode cX4_meet 77 = .ok (.aload_n 0, 1) := by decide +kernel
theorem dX4_meet_78 : decode cX4_meet 78 = .ok (.getfield 7, 3) := by decide +kernel
theorem dX4_meet_81 : decode cX4_meet 81 = .ok (.iload_n 1, 1) := by decide +kernel
theorem dX4_meet_82 : decode cX4_meet 82 = .ok (.iaload, 1) := by decide +kernel
theorem dX4_meet_83 : decode cX4_meet 83 = .ok (.iadd, 1) := by decide +kernel
theorem dX4_meet_84 : decode cX4_meet 84 = .ok (.iconst 1, 1) := by decide +kernel
theorem dX4_meet_85 : decode cX4_meet 85 = .ok (.isub, 1) := by decide +kernel
theorem dX4_meet_86 : decode cX4_meet 86 = .ok (.bipush 8, 2) := by decide +kernel
theorem dX4_meet_88 : decode cX4_meet 88 = .ok (.idiv, 1) := by decide +kernel
theorem dX4_meet_89 : decode cX4_meet 89 = .ok (.istore 4, 2) := by decide +kernel
theorem dX4_meet_91 : decode cX4_meet 91 = .ok (.aload_n 0, 1) := by decide +kernel
theorem dX4_meet_92 : decode cX4_meet 92 = .ok (.getfield 13, 3) := by decide +kernel
theorem dX4_meet_95 : decode cX4_meet 95 = .ok (.iload_n 2, 1) := by decide +kernel
theorem dX4_meet_96 : decode cX4_meet 96 = .ok (.iaload, 1) := by decide +kernel
theorem dX4_meet_97 : decode cX4_meet 97 = .ok (.bipush 8, 2) := by decide +kernel
theorem dX4_meet_99 : decode cX4_meet 99 = .ok (.idiv, 1) := by decide +kernel
theorem dX4_meet_100 : decode cX4_meet 100 = .ok (.iload 4, 2) := by decide +kernel
theorem dX4_meet_102 : decode cX4_meet 102 = .ok (.if_icmp .gt 29, 3) := by decide +kernel
theorem dX4_meet_105 : decode cX4_meet 105 = .ok (.aload_n 0, 1) := by decide +kernel
theorem dX4_meet_106 : decode cX4_meet 106 = .ok (.getfield 13, 3) := by decide +kernel
theorem dX4_meet_109 : decode cX4_meet 109 = .ok (.iload_n 2, 1) := by decide +kernel
theorem dX4_meet_110 : decode cX4_meet 110 = .ok (.iaload, 1) := by decide +kernel
theorem dX4_meet_111 : decode cX4_meet 111 = .ok (.aload_n 0, 1) := by decide +kernel
theorem dX4_meet_112 : decode cX4_meet 112 = .ok (.getfield 7, 3) := by decide +kernel
theorem dX4_meet_115 : decode cX4_meet 115 = .ok (.iload_n 2, 1) := by decide +kernel
theorem dX4_meet_116 : decode cX4_meet 116 = .ok (.iaload, 1) := by decide +kernel
theorem dX4_meet_117 : decode cX4_meet 117 = .ok (.iadd, 1) := by decide +kernel
theorem dX4_meet_118 : decode cX4_meet 118 = .ok (.iconst 1, 1) := by decide +kernel
theorem dX4_meet_119 : decode cX4_meet 119 = .ok (.isub, 1) := by decide +kernel
theorem dX4_meet_120 : decode cX4_meet 120 = .ok (.bipush 8, 2) := by decide +kernel
theorem dX4_meet_122 : decode cX4_meet 122 = .ok (.idiv, 1) := by decide +kernel
theorem dX4_meet_123 : decode cX4_meet 123 = .ok (.iload_n 3, 1) := by decide +kernel
theorem dX4_meet_124 : decode cX4_meet 124 = .ok (.if_icmp .lt 7, 3) := by decide +kernel
theorem dX4_meet_127 : decode cX4_meet 127 = .ok (.iconst 1, 1) := by decide +kernel
theorem dX4_meet_128 : decode cX4_meet 128 = .ok (.goto 4, 3) := by decide +kernel
theorem dX4_meet_131 : decode cX4_meet 131 = .ok (.iconst 0, 1) := by decide +kernel
theorem dX4_meet_132 : decode cX4_meet 132 = .ok (.ireturn, 1) := by decide +kernel
theorem dX4_has_0 : decode cX4_has 0 = .ok (.aload_n 0, 1) := by decide +kernel
theorem dX4_has_1 : decode cX4_has 1 = .ok (.getfield 16, 3) := by decide +kernel
theorem dX4_has_4 : decode cX4_has 4 = .ok (.iload_n 1, 1) := by decide +kernel
theorem dX4_has_5 : decode cX4_has 5 = .ok (.iload_n 2, 1) := by decide +kernel
theorem dX4_has_6 : decode cX4_has 6 = .ok (.invokestatic 100, 3) := by decide +kernel
theorem dX4_has_9 : decode cX4_has 9 = .ok (.caload, 1) := by decide +kernel
theorem dX4_has_10 : decode cX4_has 10 = .ok (.bipush 45, 2) := by decide +kernel
theorem dX4_has_12 : decode cX4_has 12 = .ok (.if_icmp .eq 7, 3) := by decide +kernel
theorem dX4_has_15 : decode cX4_has 15 = .ok (.iconst 1, 1) := by decide +kernel
theorem dX4_has_16 : decode cX4_has 16 = .ok (.goto 4, 3) := by decide +kernel
theorem dX4_has_19 : decode cX4_has 19 = .ok (.iconst 0, 1) := by decide +kernel
theorem dX4_has_20 : decode cX4_has 20 = .ok (.ireturn, 1) := by decide +kernel
theorem dX4_oldestIn_0 : decode cX4_oldestIn 0 = .ok (.iconst (-1), 1) := by decide +kernel
theorem dX4_oldestIn_1 : decode cX4_oldestIn 1 = .ok (.istore_n 3, 1) := by decide +kernel
theorem dX4_oldestIn_2 : decode cX4_oldestIn 2 = .ok (.iload_n 2, 1) := by decide +kernel
theorem dX4_oldestIn_3 : decode cX4_oldestIn 3 = .ok (.istore 4, 2) := by decide +kernel
theorem dX4_oldestIn_5 : decode cX4_oldestIn 5 = .ok (.iload 4, 2) := by decide +kernel
theorem dX4_oldestIn_7 : decode cX4_oldestIn 7 = .ok (.bipush 64, 2) := by decide +kernel
theorem dX4_oldestIn_9 : decode cX4_oldestIn 9 = .ok (.if_icmp .ge 50, 3) := by decide +kernel
theorem dX4_oldestIn_12 : decode cX4_oldestIn 12 = .ok (.aload_n 0, 1) := by decide +kernel
theorem dX4_oldestIn_13 : decode cX4_oldestIn 13 = .ok (.iload_n 1, 1) := by decide +kernel
theorem dX4_oldestIn_14 : decode cX4_oldestIn 14 = .ok (.iload 4, 2) := by decide +kernel
theorem dX4_oldestIn_16 : decode cX4_oldestIn 16 = .ok (.invokevirtual 103, 3) := by decide +kernel
theorem dX4_oldestIn_19 : decode cX4_oldestIn 19 = .ok (.ifCond .eq 34, 3) := by decide +kernel
theorem dX4_oldestIn_22 : decode cX4_oldestIn 22 = .ok (.iload_n 3, 1) := by decide +kernel
theorem dX4_oldestIn_23 : decode cX4_oldestIn 23 = .ok (.ifCond .lt 27, 3) := by decide +kernel
theorem dX4_oldestIn_26 : decode cX4_oldestIn 26 = .ok (.aload_n 0, 1) := by decide +kernel
theorem dX4_oldestIn_27 : decode cX4_oldestIn 27 = .ok (.getfield 20, 3) := by decide +kernel
theorem dX4_oldestIn_30 : decode cX4_oldestIn 30 = .ok (.iload_n 1, 1) := by decide +kernel
theorem dX4_oldestIn_31 : decode cX4_oldestIn 31 = .ok (.iload 4, 2) := by decide +kernel
theorem dX4_oldestIn_33 : decode cX4_oldestIn 33 = .ok (.invokestatic 100, 3) := by decide +kernel
theorem dX4_oldestIn_36 : decode cX4_oldestIn 36 = .ok (.iaload, 1) := by decide +kernel
theorem dX4_oldestIn_37 : decode cX4_oldestIn 37 = .ok (.aload_n 0, 1) := by decide +kernel
theorem dX4_oldestIn_38 : decode cX4_oldestIn 38 = .ok (.getfield 20, 3) := by decide +kernel
theorem dX4_oldestIn_41 : decode cX4_oldestIn 41 = .ok (.iload_n 1, 1) := by decide +kernel
theorem dX4_oldestIn_42 : decode cX4_oldestIn 42 = .ok (.iload_n 3, 1) := by decide +kernel
theorem dX4_oldestIn_43 : decode cX4_oldestIn 43 = .ok (.invokestatic 100, 3) := by decide +kernel
theorem dX4_oldestIn_46 : decode cX4_oldestIn 46 = .ok (.iaload, 1) := by decide +kernel
theorem dX4_oldestIn_47 : decode cX4_oldestIn 47 = .ok (.if_icmp .ge 6, 3) := by decide +kernel
theorem dX4_oldestIn_50 : decode cX4_oldestIn 50 = .ok (.iload 4, 2) := by decide +kernel
theorem dX4_oldestIn_52 : decode cX4_oldestIn 52 = .ok (.istore_n 3, 1) := by decide +kernel
theorem dX4_oldestIn_53 : decode cX4_oldestIn 53 = .ok (.iinc 4 4, 3) := by decide +kernel
theorem dX4_oldestIn_56 : decode cX4_oldestIn 56 = .ok (.goto (-51), 3) := by decide +kernel
theorem dX4_oldestIn_59 : decode cX4_oldestIn 59 = .ok (.iload_n 3, 1) := by decide +kernel
theorem dX4_oldestIn_60 : decode cX4_oldestIn 60 = .ok (.ireturn, 1) := by decide +kernel
theorem dX4_manyIn_0 : decode cX4_manyIn 0 = .ok (.iconst 0, 1) := by decide +kernel
theorem dX4_manyIn_1 : decode cX4_manyIn 1 = .ok (.istore_n 3, 1) := by decide +kernel
theorem dX4_manyIn_2 : decode cX4_manyIn 2 = .ok (.iload_n 2, 1) := by decide +kernel
theorem dX4_manyIn_3 : decode cX4_manyIn 3 = .ok (.istore 4, 2) := by decide +kernel
theorem dX4_manyIn_5 : decode cX4_manyIn 5 = .ok (.iload 4, 2) := by decide +kernel
theorem dX4_manyIn_7 : decode cX4_manyIn 7 = .ok (.bipush 64, 2) := by decide +kernel
theorem dX4_manyIn_9 : decode cX4_manyIn 9 = .ok (.if_icmp .ge 27, 3) := by decide +kernel
theorem dX4_manyIn_12 : decode cX4_manyIn 12 = .ok (.iload_n 3, 1) := by decide +kernel
theorem dX4_manyIn_13 : decode cX4_manyIn 13 = .ok (.aload_n 0, 1) := by decide +kernel
theorem dX4_manyIn_14 : decode cX4_manyIn 14 = .ok (.iload_n 1, 1) := by decide +kernel
theorem dX4_manyIn_15 : decode cX4_manyIn 15 = .ok (.iload 4, 2) := by decide +kernel
theorem dX4_manyIn_17 : decode cX4_manyIn 17 = .ok (.invokevirtual 103, 3) := by decide +kernel
theorem dX4_manyIn_20 : decode cX4_manyIn 20 = .ok (.ifCond .eq 7, 3) := by decide +kernel
theorem dX4_manyIn_23 : decode cX4_manyIn 23 = .ok (.iconst 1, 1) := by decide +kernel
theorem dX4_manyIn_24 : decode cX4_manyIn 24 = .ok (.goto 4, 3) := by decide +kernel
theorem dX4_manyIn_27 : decode cX4_manyIn 27 = .ok (.iconst 0, 1) := by decide +kernel
theorem dX4_manyIn_28 : decode cX4_manyIn 28 = .ok (.iadd, 1) := by decide +kernel
theorem dX4_manyIn_29 : decode cX4_manyIn 29 = .ok (.istore_n 3, 1) := by decide +kernel
theorem dX4_manyIn_30 : decode cX4_manyIn 30 = .ok (.iinc 4 4, 3) := by decide +kernel
theorem dX4_manyIn_33 : decode cX4_manyIn 33 = .ok (.goto (-28), 3) := by decide +kernel
theorem dX4_manyIn_36 : decode cX4_manyIn 36 = .ok (.iload_n 3, 1) := by decide +kernel
theorem dX4_manyIn_37 : decode cX4_manyIn 37 = .ok (.ireturn, 1) := by decide +kernel
theorem dX4_leaves_0 : decode cX4_leaves 0 = .ok (.iload_n 1, 1) := by decide +kernel
theorem dX4_leaves_1 : decode cX4_leaves 1 = .ok (.iload_n 2, 1) := by decide +kernel
theorem dX4_leaves_2 : decode cX4_leaves 2 = .ok (.invokestatic 100, 3) := by decide +kernel
theorem dX4_leaves_5 : decode cX4_leaves 5 = .ok (.istore 4, 2) := by decide +kernel
theorem dX4_leaves_7 : decode cX4_leaves 7 = .ok (.aload_n 0, 1) := by decide +kernel
theorem dX4_leaves_8 : decode cX4_leaves 8 = .ok (.getfield 16, 3) := by decide +kernel
theorem dX4_leaves_11 : decode cX4_leaves 11 = .ok (.iload 4, 2) := by decide +kernel
theorem dX4_leaves_13 : decode cX4_leaves 13 = .ok (.bipush 45, 2) := by decide +kernel
theorem dX4_leaves_15 : decode cX4_leaves 15 = .ok (.castore, 1) := by decide +kernel
theorem dX4_leaves_16 : decode cX4_leaves 16 = .ok (.aload_n 0, 1) := by decide +kernel
theorem dX4_leaves_17 : decode cX4_leaves 17 = .ok (.getfield 23, 3) := by decide +kernel
theorem dX4_leaves_20 : decode cX4_leaves 20 = .ok (.iload 4, 2) := by decide +kernel
theorem dX4_leaves_22 : decode cX4_leaves 22 = .ok (.iload_n 3, 1) := by decide +kernel
theorem dX4_leaves_23 : decode cX4_leaves 23 = .ok (.iastore, 1) := by decide +kernel
theorem dX4_leaves_24 : decode cX4_leaves 24 = .ok (.aload_n 0, 1) := by decide +kernel
theorem dX4_leaves_25 : decode cX4_leaves 25 = .ok (.getfield 26, 3) := by decide +kernel
theorem dX4_leaves_28 : decode cX4_leaves 28 = .ok (.iload 4, 2) := by decide +kernel
theorem dX4_leaves_30 : decode cX4_leaves 30 = .ok (.baload, 1) := by decide +kernel
theorem dX4_leaves_31 : decode cX4_leaves 31 = .ok (.ifCond .eq 13, 3) := by decide +kernel
theorem dX4_leaves_34 : decode cX4_leaves 34 = .ok (.aload_n 0, 1) := by decide +kernel
theorem dX4_leaves_35 : decode cX4_leaves 35 = .ok (.getfield 48, 3) := by decide +kernel
theorem dX4_leaves_38 : decode cX4_leaves 38 = .ok (.iload_n 1, 1) := by decide +kernel
theorem dX4_leaves_39 : decode cX4_leaves 39 = .ok (.dup2, 1) := by decide +kernel
theorem dX4_leaves_40 : decode cX4_leaves 40 = .ok (.iaload, 1) := by decide +kernel
theorem dX4_leaves_41 : decode cX4_leaves 41 = .ok (.iconst 1, 1) := by decide +kernel
theorem dX4_leaves_42 : decode cX4_leaves 42 = .ok (.iadd, 1) := by decide +kernel
theorem dX4_leaves_43 : decode cX4_leaves 43 = .ok (.iastore, 1) := by decide +kernel
theorem dX4_leaves_44 : decode cX4_leaves 44 = .ok (.aload_n 0, 1) := by decide +kernel
theorem dX4_leaves_45 : decode cX4_leaves 45 = .ok (.getfield 26, 3) := by decide +kernel
theorem dX4_leaves_48 : decode cX4_leaves 48 = .ok (.iload 4, 2) := by decide +kernel
theorem dX4_leaves_50 : decode cX4_leaves 50 = .ok (.iconst 0, 1) := by decide +kernel
theorem dX4_leaves_51 : decode cX4_leaves 51 = .ok (.bastore, 1) := by decide +kernel
theorem dX4_leaves_52 : decode cX4_leaves 52 = .ok (.return_, 1) := by decide +kernel
theorem dX4_comes_0 : decode cX4_comes 0 = .ok (.iconst 0, 1) := by decide +kernel
theorem dX4_comes_1 : decode cX4_comes 1 = .ok (.istore 4, 2) := by decide +kernel
theorem dX4_comes_3 : decode cX4_comes 3 = .ok (.aload_n 0, 1) := by decide +kernel
theorem dX4_comes_4 : decode cX4_comes 4 = .ok (.iload_n 1, 1) := by decide +kernel
theorem dX4_comes_5 : decode cX4_comes 5 = .ok (.iload_n 2, 1) := by decide +kernel
theorem dX4_comes_6 : decode cX4_comes 6 = .ok (.iconst 4, 1) := by decide +kernel
theorem dX4_comes_7 : decode cX4_comes 7 = .ok (.irem, 1) := by decide +kernel
theorem dX4_comes_8 : decode cX4_comes 8 = .ok (.invokevirtual 106, 3) := by decide +kernel
theorem dX4_comes_11 : decode cX4_comes 11 = .ok (.iconst 2, 1) := by decide +kernel
theorem dX4_comes_12 : decode cX4_comes 12 = .ok (.if_icmp .ne 45, 3) := by decide +kernel
theorem dX4_comes_15 : decode cX4_comes 15 = .ok (.aload_n 0, 1) := by decide +kernel
theorem dX4_comes_16 : decode cX4_comes 16 = .ok (.iload_n 1, 1) := by decide +kernel
theorem dX4_comes_17 : decode cX4_comes 17 = .ok (.iload_n 2, 1) := by decide +kernel
theorem dX4_comes_18 : decode cX4_comes 18 = .ok (.iconst 4, 1) := by decide +kernel
theorem dX4_comes_19 : decode cX4_comes 19 = .ok (.irem, 1) := by decide +kernel
theorem dX4_comes_20 : decode cX4_comes 20 = .ok (.invokevirtual 109, 3) := by decide +kernel
theorem dX4_comes_23 : decode cX4_comes 23 = .ok (.istore 5, 2) := by decide +kernel
theorem dX4_comes_25 : decode cX4_comes 25 = .ok (.aload_n 0, 1) := by decide +kernel
theorem dX4_comes_26 : decode cX4_comes 26 = .ok (.getfield 16, 3) := by decide +kernel
theorem dX4_comes_29 : decode cX4_comes 29 = .ok (.iload_n 1, 1) := by decide +kernel
theorem dX4_comes_30 : decode cX4_comes 30 = .ok (.iload 5, 2) := by decide +kernel
theorem dX4_comes_32 : decode cX4_comes 32 = .ok (.invokestatic 100, 3) := by decide +kernel
theorem dX4_comes_35 : decode cX4_comes 35 = .ok (.caload, 1) := by decide +kernel
theorem dX4_comes_36 : decode cX4_comes 36 = .ok (.bipush 109, 2) := by decide +kernel
theorem dX4_comes_38 : decode cX4_comes 38 = .ok (.if_icmp .ne 7, 3) := by decide +kernel
theorem dX4_comes_41 : decode cX4_comes 41 = .ok (.iconst 1, 1) := by decide +kernel
theorem dX4_comes_42 : decode cX4_comes 42 = .ok (.goto 4, 3) := by decide +kernel
theorem dX4_comes_45 : decode cX4_comes 45 = .ok (.iconst 0, 1) := by decide +kernel
theorem dX4_comes_46 : decode cX4_comes 46 = .ok (.istore 4, 2) := by decide +kernel
theorem dX4_comes_48 : decode cX4_comes 48 = .ok (.aload_n 0, 1) := by decide +kernel
theorem dX4_comes_49 : decode cX4_comes 49 = .ok (.iload_n 1, 1) := by decide +kernel
theorem dX4_comes_50 : decode cX4_comes 50 = .ok (.iload 5, 2) := by decide +kernel
theorem dX4_comes_52 : decode cX4_comes 52 = .ok (.bipush (-2), 2) := by decide +kernel
theorem dX4_comes_54 : decode cX4_comes 54 = .ok (.invokevirtual 112, 3) := by decide +kernel
theorem dX4_comes_57 : decode cX4_comes 57 = .ok (.aload_n 0, 1) := by decide +kernel
theorem dX4_comes_58 : decode cX4_comes 58 = .ok (.getfield 16, 3) := by decide +kernel
theorem dX4_comes_61 : decode cX4_comes 61 = .ok (.iload_n 1, 1) := by decide +kernel
theorem dX4_comes_62 : decode cX4_comes 62 = .ok (.iload_n 2, 1) := by decide +kernel
theorem dX4_comes_63 : decode cX4_comes 63 = .ok (.invokestatic 100, 3) := by decide +kernel
theorem dX4_comes_66 : decode cX4_comes 66 = .ok (.iload_n 3, 1) := by decide +kernel
theorem dX4_comes_67 : decode cX4_comes 67 = .ok (.castore, 1) := by decide +kernel
theorem dX4_comes_68 : decode cX4_comes 68 = .ok (.aload_n 0, 1) := by decide +kernel
theorem dX4_comes_69 : decode cX4_comes 69 = .ok (.dup, 1) := by decide +kernel
theorem dX4_comes_70 : decode cX4_comes 70 = .ok (.getfield 73, 3) := by decide +kernel
theorem dX4_comes_73 : decode cX4_comes 73 = .ok (.iconst 1, 1) := by decide +kernel
theorem dX4_comes_74 : decode cX4_comes 74 = .ok (.iadd, 1) := by decide +kernel
theorem dX4_comes_75 : decode cX4_comes 75 = .ok (.putfield 73, 3) := by decide +kernel
theorem dX4_comes_78 : decode cX4_comes 78 = .ok (.aload_n 0, 1) := by decide +kernel
theorem dX4_comes_79 : decode cX4_comes 79 = .ok (.getfield 20, 3) := by decide +kernel
theorem dX4_comes_82 : decode cX4_comes 82 = .ok (.iload_n 1, 1) := by decide +kernel
theorem dX4_comes_83 : decode cX4_comes 83 = .ok (.iload_n 2, 1) := by decide +kernel
theorem dX4_comes_84 : decode cX4_comes 84 = .ok (.invokestatic 100, 3) := by decide +kernel
theorem dX4_comes_87 : decode cX4_comes 87 = .ok (.aload_n 0, 1) := by decide +kernel
theorem dX4_comes_88 : decode cX4_comes 88 = .ok (.getfield 73, 3) := by decide +kernel
theorem dX4_comes_91 : decode cX4_comes 91 = .ok (.iastore, 1) := by decide +kernel
theorem dX4_comes_92 : decode cX4_comes 92 = .ok (.iload 4, 2) := by decide +kernel
theorem dX4_comes_94 : decode cX4_comes 94 = .ok (.ireturn, 1) := by decide +kernel
theorem dX4_othersWith_0 : decode cX4_othersWith 0 = .ok (.iconst 0, 1) := by decide +kernel
theorem dX4_othersWith_1 : decode cX4_othersWith 1 = .ok (.istore_n 3, 1) := by decide +kernel
theorem dX4_othersWith_2 : decode cX4_othersWith 2 = .ok (.iconst 0, 1) := by decide +kernel
theorem dX4_othersWith_3 : decode cX4_othersWith 3 = .ok (.istore 4, 2) := by decide +kernel
theorem dX4_othersWith_5 : decode cX4_othersWith 5 = .ok (.iload 4, 2) := by decide +kernel
theorem dX4_othersWith_7 : decode cX4_othersWith 7 = .ok (.iconst 4, 1) := by decide +kernel
theorem dX4_othersWith_8 : decode cX4_othersWith 8 = .ok (.if_icmp .ge 33, 3) := by decide +kernel
theorem dX4_othersWith_11 : decode cX4_othersWith 11 = .ok (.iload_n 3, 1) := by decide +kernel
theorem dX4_othersWith_12 : decode cX4_othersWith 12 = .ok (.iload 4, 2) := by decide +kernel
theorem dX4_othersWith_14 : decode cX4_othersWith 14 = .ok (.iload_n 1, 1) := by decide +kernel
theorem dX4_othersWith_15 : decode cX4_othersWith 15 = .ok (.if_icmp .eq 17, 3) := by decide +kernel
theorem dX4_othersWith_18 : decode cX4_othersWith 18 = .ok (.aload_n 0, 1) := by decide +kernel
theorem dX4_othersWith_19 : decode cX4_othersWith 19 = .ok (.iload 4, 2) := by decide +kernel
theorem dX4_othersWith_21 : decode cX4_othersWith 21 = .ok (.iload_n 2, 1) := by decide +kernel
theorem dX4_othersWith_22 : decode cX4_othersWith 22 = .ok (.invokevirtual 103, 3) := by decide +kernel
theorem dX4_othersWith_25 : decode cX4_othersWith 25 = .ok (.ifCond .eq 7, 3) := by decide +kernel
theorem dX4_othersWith_28 : decode cX4_othersWith 28 = .ok (.iconst 1, 1) := by decide +kernel
theorem dX4_othersWith_29 : decode cX4_othersWith 29 = .ok (.goto 4, 3) := by decide +kernel
theorem dX4_othersWith_32 : decode cX4_othersWith 32 = .ok (.iconst 0, 1) := by decide +kernel
theorem dX4_othersWith_33 : decode cX4_othersWith 33 = .ok (.iadd, 1) := by decide +kernel
theorem dX4_othersWith_34 : decode cX4_othersWith 34 = .ok (.istore_n 3, 1) := by decide +kernel
theorem dX4_othersWith_35 : decode cX4_othersWith 35 = .ok (.iinc 4 1, 3) := by decide +kernel
theorem dX4_othersWith_38 : decode cX4_othersWith 38 = .ok (.goto (-33), 3) := by decide +kernel
theorem dX4_othersWith_41 : decode cX4_othersWith 41 = .ok (.iload_n 3, 1) := by decide +kernel
theorem dX4_othersWith_42 : decode cX4_othersWith 42 = .ok (.ireturn, 1) := by decide +kernel
theorem dX4_ownerOf_0 : decode cX4_ownerOf 0 = .ok (.iconst 0, 1) := by decide +kernel
theorem dX4_ownerOf_1 : decode cX4_ownerOf 1 = .ok (.istore_n 2, 1) := by decide +kernel
theorem dX4_ownerOf_2 : decode cX4_ownerOf 2 = .ok (.iload_n 2, 1) := by decide +kernel
theorem dX4_ownerOf_3 : decode cX4_ownerOf 3 = .ok (.iconst 4, 1) := by decide +kernel
theorem dX4_ownerOf_4 : decode cX4_ownerOf 4 = .ok (.if_icmp .ge 41, 3) := by decide +kernel
theorem dX4_ownerOf_7 : decode cX4_ownerOf 7 = .ok (.aload_n 0, 1) := by decide +kernel
theorem dX4_ownerOf_8 : decode cX4_ownerOf 8 = .ok (.getfield 16, 3) := by decide +kernel
theorem dX4_ownerOf_11 : decode cX4_ownerOf 11 = .ok (.iload_n 2, 1) := by decide +kernel
theorem dX4_ownerOf_12 : decode cX4_ownerOf 12 = .ok (.iload_n 1, 1) := by decide +kernel
theorem dX4_ownerOf_13 : decode cX4_ownerOf 13 = .ok (.invokestatic 100, 3) := by decide +kernel
theorem dX4_ownerOf_16 : decode cX4_ownerOf 16 = .ok (.caload, 1) := by decide +kernel
theorem dX4_ownerOf_17 : decode cX4_ownerOf 17 = .ok (.bipush 109, 2) := by decide +kernel
theorem dX4_ownerOf_19 : decode cX4_ownerOf 19 = .ok (.if_icmp .eq 18, 3) := by decide +kernel
theorem dX4_ownerOf_22 : decode cX4_ownerOf 22 = .ok (.aload_n 0, 1) := by decide +kernel
theorem dX4_ownerOf_23 : decode cX4_ownerOf 23 = .ok (.getfield 16, 3) := by decide +kernel
theorem dX4_ownerOf_26 : decode cX4_ownerOf 26 = .ok (.iload_n 2, 1) := by decide +kernel
theorem dX4_ownerOf_27 : decode cX4_ownerOf 27 = .ok (.iload_n 1, 1) := by decide +kernel
theorem dX4_ownerOf_28 : decode cX4_ownerOf 28 = .ok (.invokestatic 100, 3) := by decide +kernel
theorem dX4_ownerOf_31 : decode cX4_ownerOf 31 = .ok (.caload, 1) := by decide +kernel
theorem dX4_ownerOf_32 : decode cX4_ownerOf 32 = .ok (.bipush 101, 2) := by decide +kernel
theorem dX4_ownerOf_34 : decode cX4_ownerOf 34 = .ok (.if_icmp .ne 5, 3) := by decide +kernel
theorem dX4_ownerOf_37 : decode cX4_ownerOf 37 = .ok (.iload_n 2, 1) := by decide +kernel
theorem dX4_ownerOf_38 : decode cX4_ownerOf 38 = .ok (.ireturn, 1) := by decide +kernel
theorem dX4_ownerOf_39 : decode cX4_ownerOf 39 = .ok (.iinc 2 1, 3) := by decide +kernel
theorem dX4_ownerOf_42 : decode cX4_ownerOf 42 = .ok (.goto (-40), 3) := by decide +kernel
theorem dX4_ownerOf_45 : decode cX4_ownerOf 45 = .ok (.iconst (-1), 1) := by decide +kernel
theorem dX4_ownerOf_46 : decode cX4_ownerOf 46 = .ok (.ireturn, 1) := by decide +kernel
theorem dX4_causeFor_0 : decode cX4_causeFor 0 = .ok (.aload_n 0, 1) := by decide +kernel
theorem dX4_causeFor_1 : decode cX4_causeFor 1 = .ok (.getfield 23, 3) := by decide +kernel
theorem dX4_causeFor_4 : decode cX4_causeFor 4 = .ok (.iload_n 1, 1) := by decide +kernel
theorem dX4_causeFor_5 : decode cX4_causeFor 5 = .ok (.iload_n 2, 1) := by decide +kernel
theorem dX4_causeFor_6 : decode cX4_causeFor 6 = .ok (.invokestatic 100, 3) := by decide +kernel
theorem dX4_causeFor_9 : decode cX4_causeFor 9 = .ok (.iaload, 1) := by decide +kernel
theorem dX4_causeFor_10 : decode cX4_causeFor 10 = .ok (.istore 4, 2) := by decide +kernel
theorem dX4_causeFor_12 : decode cX4_causeFor 12 = .ok (.iload 4, 2) := by decide +kernel
theorem dX4_causeFor_14 : decode cX4_causeFor 14 = .ok (.iconst (-1), 1) := by decide +kernel
theorem dX4_causeFor_15 : decode cX4_causeFor 15 = .ok (.if_icmp .ne 6, 3) := by decide +kernel
theorem dX4_causeFor_18 : decode cX4_causeFor 18 = .ok (.bipush 99, 2) := by decide +kernel
theorem dX4_causeFor_20 : decode cX4_causeFor 20 = .ok (.ireturn, 1) := by decide +kernel
theorem dX4_causeFor_21 : decode cX4_causeFor 21 = .ok (.iload 4, 2) := by decide +kernel
theorem dX4_causeFor_23 : decode cX4_causeFor 23 = .ok (.bipush (-2), 2) := by decide +kernel
theorem dX4_causeFor_25 : decode cX4_causeFor 25 = .ok (.if_icmp .ne 6, 3) := by decide +kernel
theorem dX4_causeFor_28 : decode cX4_causeFor 28 = .ok (.bipush 101, 2) := by decide +kernel
theorem dX4_causeFor_30 : decode cX4_causeFor 30 = .ok (.ireturn, 1) := by decide +kernel
theorem dX4_causeFor_31 : decode cX4_causeFor 31 = .ok (.iload 4, 2) := by decide +kernel
theorem dX4_causeFor_33 : decode cX4_causeFor 33 = .ok (.iload_n 3, 1) := by decide +kernel
theorem dX4_causeFor_34 : decode cX4_causeFor 34 = .ok (.if_icmp .ne 8, 3) := by decide +kernel
theorem dX4_causeFor_37 : decode cX4_causeFor 37 = .ok (.bipush 116, 2) := by decide +kernel
theorem dX4_causeFor_39 : decode cX4_causeFor 39 = .ok (.goto 5, 3) := by decide +kernel
theorem dX4_causeFor_42 : decode cX4_causeFor 42 = .ok (.bipush 102, 2) := by decide +kernel
theorem dX4_causeFor_44 : decode cX4_causeFor 44 = .ok (.ireturn, 1) := by decide +kernel
theorem dX4_longer_0 : decode cX4_longer 0 = .ok (.iconst 2, 1) := by decide +kernel
theorem dX4_longer_1 : decode cX4_longer 1 = .ok (.aload_n 0, 1) := by decide +kernel
theorem dX4_longer_2 : decode cX4_longer 2 = .ok (.arraylength, 1) := by decide +kernel
theorem dX4_longer_3 : decode cX4_longer 3 = .ok (.imul, 1) := by decide +kernel
theorem dX4_longer_4 : decode cX4_longer 4 = .ok (.newarray .int, 2) := by decide +kernel
theorem dX4_longer_6 : decode cX4_longer 6 = .ok (.astore_n 1, 1) := by decide +kernel
theorem dX4_longer_7 : decode cX4_longer 7 = .ok (.iconst 0, 1) := by decide +kernel
theorem dX4_longer_8 : decode cX4_longer 8 = .ok (.istore_n 2, 1) := by decide +kernel
theorem dX4_longer_9 : decode cX4_longer 9 = .ok (.iload_n 2, 1) := by decide +kernel
theorem dX4_longer_10 : decode cX4_longer 10 = .ok (.aload_n 0, 1) := by decide +kernel
theorem dX4_longer_11 : decode cX4_longer 11 = .ok (.arraylength, 1) := by decide +kernel
theorem dX4_longer_12 : decode cX4_longer 12 = .ok (.if_icmp .ge 15, 3) := by decide +kernel
theorem dX4_longer_15 : decode cX4_longer 15 = .ok (.aload_n 1, 1) := by decide +kernel
theorem dX4_longer_16 : decode cX4_longer 16 = .ok (.iload_n 2, 1) := by decide +kernel
theorem dX4_longer_17 : decode cX4_longer 17 = .ok (.aload_n 0, 1) := by decide +kernel
theorem dX4_longer_18 : decode cX4_longer 18 = .ok (.iload_n 2, 1) := by decide +kernel
theorem dX4_longer_19 : decode cX4_longer 19 = .ok (.iaload, 1) := by decide +kernel
theorem dX4_longer_20 : decode cX4_longer 20 = .ok (.iastore, 1) := by decide +kernel
theorem dX4_longer_21 : decode cX4_longer 21 = .ok (.iinc 2 1, 3) := by decide +kernel
theorem dX4_longer_24 : decode cX4_longer 24 = .ok (.goto (-15), 3) := by decide +kernel
theorem dX4_longer_27 : decode cX4_longer 27 = .ok (.aload_n 1, 1) := by decide +kernel
theorem dX4_longer_28 : decode cX4_longer 28 = .ok (.areturn, 1) := by decide +kernel
theorem dX4_notes_0 : decode cX4_notes 0 = .ok (.aload_n 0, 1) := by decide +kernel
theorem dX4_notes_1 : decode cX4_notes 1 = .ok (.getfield 70, 3) := by decide +kernel
theorem dX4_notes_4 : decode cX4_notes 4 = .ok (.aload_n 0, 1) := by decide +kernel
theorem dX4_notes_5 : decode cX4_notes 5 = .ok (.getfield 51, 3) := by decide +kernel
theorem dX4_notes_8 : decode cX4_notes 8 = .ok (.arraylength, 1) := by decide +kernel
theorem dX4_notes_9 : decode cX4_notes 9 = .ok (.if_icmp .ne 84, 3) := by decide +kernel
theorem dX4_notes_12 : decode cX4_notes 12 = .ok (.aload_n 0, 1) := by decide +kernel
theorem dX4_notes_13 : decode cX4_notes 13 = .ok (.aload_n 0, 1) := by decide +kernel
theorem dX4_notes_14 : decode cX4_notes 14 = .ok (.getfield 51, 3) := by decide +kernel
theorem dX4_notes_17 : decode cX4_notes 17 = .ok (.invokestatic 116, 3) := by decide +kernel
theorem dX4_notes_20 : decode cX4_notes 20 = .ok (.putfield 51, 3) := by decide +kernel
theorem dX4_notes_23 : decode cX4_notes 23 = .ok (.aload_n 0, 1) := by decide +kernel
theorem dX4_notes_24 : decode cX4_notes 24 = .ok (.aload_n 0, 1) := by decide +kernel
theorem dX4_notes_25 : decode cX4_notes 25 = .ok (.getfield 54, 3) := by decide +kernel
theorem dX4_notes_28 : decode cX4_notes 28 = .ok (.invokestatic 116, 3) := by decide +kernel
theorem dX4_notes_31 : decode cX4_notes 31 = .ok (.putfield 54, 3) := by decide +kernel
theorem dX4_notes_34 : decode cX4_notes 34 = .ok (.aload_n 0, 1) := by decide +kernel
theorem dX4_notes_35 : decode cX4_notes 35 = .ok (.aload_n 0, 1) := by decide +kernel
theorem dX4_notes_36 : decode cX4_notes 36 = .ok (.getfield 57, 3) := by decide +kernel
theorem dX4_notes_39 : decode cX4_notes 39 = .ok (.invokestatic 116, 3) := by decide +kernel
theorem dX4_notes_42 : decode cX4_notes 42 = .ok (.putfield 57, 3) := by decide +kernel
theorem dX4_notes_45 : decode cX4_notes 45 = .ok (.iconst 2, 1) := by decide +kernel
theorem dX4_notes_46 : decode cX4_notes 46 = .ok (.aload_n 0, 1) := by decide +kernel
theorem dX4_notes_47 : decode cX4_notes 47 = .ok (.getfield 60, 3) := by decide +kernel
theorem dX4_notes_50 : decode cX4_notes 50 = .ok (.arraylength, 1) := by decide +kernel
theorem dX4_notes_51 : decode cX4_notes 51 = .ok (.imul, 1) := by decide +kernel
theorem dX4_notes_52 : decode cX4_notes 52 = .ok (.newarray .char, 2) := by decide +kernel
theorem dX4_notes_54 : decode cX4_notes 54 = .ok (.astore 5, 2) := by decide +kernel
theorem dX4_notes_56 : decode cX4_notes 56 = .ok (.iconst 0, 1) := by decide +kernel
theorem dX4_notes_57 : decode cX4_notes 57 = .ok (.istore 6, 2) := by decide +kernel
theorem dX4_notes_59 : decode cX4_notes 59 = .ok (.iload 6, 2) := by decide +kernel
theorem dX4_notes_61 : decode cX4_notes 61 = .ok (.aload_n 0, 1) := by decide +kernel
theorem dX4_notes_62 : decode cX4_notes 62 = .ok (.getfield 60, 3) := by decide +kernel
theorem dX4_notes_65 : decode cX4_notes 65 = .ok (.arraylength, 1) := by decide +kernel
theorem dX4_notes_66 : decode cX4_notes 66 = .ok (.if_icmp .ge 21, 3) := by decide +kernel
theorem dX4_notes_69 : decode cX4_notes 69 = .ok (.aload 5, 2) := by decide +kernel
theorem dX4_notes_71 : decode cX4_notes 71 = .ok (.iload 6, 2) := by decide +kernel
theorem dX4_notes_73 : decode cX4_notes 73 = .ok (.aload_n 0, 1) := by decide +kernel
theorem dX4_notes_74 : decode cX4_notes 74 = .ok (.getfield 60, 3) := by decide +kernel
theorem dX4_notes_77 : decode cX4_notes 77 = .ok (.iload 6, 2) := by decide +kernel
theorem dX4_notes_79 : decode cX4_notes 79 = .ok (.caload, 1) := by decide +kernel
theorem dX4_notes_80 : decode cX4_notes 80 = .ok (.castore, 1) := by decide +kernel
theorem dX4_notes_81 : decode cX4_notes 81 = .ok (.iinc 6 1, 3) := by decide +kernel
theorem dX4_notes_84 : decode cX4_notes 84 = .ok (.goto (-25), 3) := by decide +kernel
theorem dX4_notes_87 : decode cX4_notes 87 = .ok (.aload_n 0, 1) := by decide +kernel
theorem dX4_notes_88 : decode cX4_notes 88 = .ok (.aload 5, 2) := by decide +kernel
theorem dX4_notes_90 : decode cX4_notes 90 = .ok (.putfield 60, 3) := by decide +kernel
theorem dX4_notes_93 : decode cX4_notes 93 = .ok (.aload_n 0, 1) := by decide +kernel
theorem dX4_notes_94 : decode cX4_notes 94 = .ok (.getfield 51, 3) := by decide +kernel
theorem dX4_notes_97 : decode cX4_notes 97 = .ok (.aload_n 0, 1) := by decide +kernel
theorem dX4_notes_98 : decode cX4_notes 98 = .ok (.getfield 70, 3) := by decide +kernel
theorem dX4_notes_101 : decode cX4_notes 101 = .ok (.iload_n 3, 1) := by decide +kernel
theorem dX4_notes_102 : decode cX4_notes 102 = .ok (.iastore, 1) := by decide +kernel
theorem dX4_notes_103 : decode cX4_notes 103 = .ok (.aload_n 0, 1) := by decide +kernel
theorem dX4_notes_104 : decode cX4_notes 104 = .ok (.getfield 54, 3) := by decide +kernel
theorem dX4_notes_107 : decode cX4_notes 107 = .ok (.aload_n 0, 1) := by decide +kernel

theorem dX5_counterWord_69 : decode cX5_counterWord 69 = .ok (.goto 17, 3) := by decide +kernel
theorem dX5_counterWord_72 : decode cX5_counterWord 72 = .ok (.aload_n 0, 1) := by decide +kernel
theorem dX5_counterWord_73 : decode cX5_counterWord 73 = .ok (.ldc 190, 2) := by decide +kernel
theorem dX5_counterWord_75 : decode cX5_counterWord 75 = .ok (.invokevirtual 155, 3) := by decide +kernel
theorem dX5_counterWord_78 : decode cX5_counterWord 78 = .ok (.ifCond .eq 7, 3) := by decide +kernel
theorem dX5_counterWord_81 : decode cX5_counterWord 81 = .ok (.iconst 5, 1) := by decide +kernel
theorem dX5_counterWord_82 : decode cX5_counterWord 82 = .ok (.goto 4, 3) := by decide +kernel
theorem dX5_counterWord_85 : decode cX5_counterWord 85 = .ok (.iconst (-1), 1) := by decide +kernel
theorem dX5_counterWord_86 : decode cX5_counterWord 86 = .ok (.istore_n 1, 1) := by decide +kernel
theorem dX5_counterWord_87 : decode cX5_counterWord 87 = .ok (.iload_n 1, 1) := by decide +kernel
theorem dX5_counterWord_88 : decode cX5_counterWord 88 = .ok (.iconst (-1), 1) := by decide +kernel
theorem dX5_counterWord_89 : decode cX5_counterWord 89 = .ok (.if_icmp .ne 12, 3) := by decide +kernel
theorem dX5_counterWord_92 : decode cX5_counterWord 92 = .ok (.aload_n 0, 1) := by decide +kernel
theorem dX5_counterWord_93 : decode cX5_counterWord 93 = .ok (.iconst 1, 1) := by decide +kernel
theorem dX5_counterWord_94 : decode cX5_counterWord 94 = .ok (.aload_n 0, 1) := by decide +kernel
theorem dX5_counterWord_95 : decode cX5_counterWord 95 = .ok (.getfield 123, 3) := by decide +kernel
theorem dX5_counterWord_98 : decode cX5_counterWord 98 = .ok (.invokevirtual 147, 3) := by decide +kernel
theorem dX5_counterWord_101 : decode cX5_counterWord 101 = .ok (.iload_n 1, 1) := by decide +kernel
theorem dX5_counterWord_102 : decode cX5_counterWord 102 = .ok (.ireturn, 1) := by decide +kernel
theorem dX5_counted_0 : decode cX5_counted 0 = .ok (.iload_n 1, 1) := by decide +kernel
theorem dX5_counted_1 : decode cX5_counted 1 = .ok (.tableswitch 78 0 4 #[35, 43, 51, 59, 68], 35) := by decide +kernel
theorem dX5_counted_36 : decode cX5_counted 36 = .ok (.aload_n 0, 1) := by decide +kernel
theorem dX5_counted_37 : decode cX5_counted 37 = .ok (.iconst 3, 1) := by decide +kernel
theorem dX5_counted_38 : decode cX5_counted 38 = .ok (.invokevirtual 46, 3) := by decide +kernel
theorem dX5_counted_41 : decode cX5_counted 41 = .ok (.goto 44, 3) := by decide +kernel
theorem dX5_counted_44 : decode cX5_counted 44 = .ok (.aload_n 0, 1) := by decide +kernel
theorem dX5_counted_45 : decode cX5_counted 45 = .ok (.iconst 2, 1) := by decide +kernel
theorem dX5_counted_46 : decode cX5_counted 46 = .ok (.invokevirtual 46, 3) := by decide +kernel
theorem dX5_counted_49 : decode cX5_counted 49 = .ok (.goto 36, 3) := by decide +kernel
theorem dX5_counted_52 : decode cX5_counted 52 = .ok (.aload_n 0, 1) := by decide +kernel
theorem dX5_counted_53 : decode cX5_counted 53 = .ok (.iconst 1, 1) := by decide +kernel
theorem dX5_counted_54 : decode cX5_counted 54 = .ok (.invokevirtual 46, 3) := by decide +kernel
theorem dX5_counted_57 : decode cX5_counted 57 = .ok (.goto 28, 3) := by decide +kernel
theorem dX5_counted_60 : decode cX5_counted 60 = .ok (.aload_n 0, 1) := by decide +kernel
theorem dX5_counted_61 : decode cX5_counted 61 = .ok (.getfield 7, 3) := by decide +kernel
theorem dX5_counted_64 : decode cX5_counted 64 = .ok (.iconst 4, 1) := by decide +kernel
theorem dX5_counted_65 : decode cX5_counted 65 = .ok (.iaload, 1) := by decide +kernel
theorem dX5_counted_66 : decode cX5_counted 66 = .ok (.goto 19, 3) := by decide +kernel
theorem dX5_counted_69 : decode cX5_counted 69 = .ok (.aload_n 0, 1) := by decide +kernel
theorem dX5_counted_70 : decode cX5_counted 70 = .ok (.getfield 7, 3) := by decide +kernel
theorem dX5_counted_73 : decode cX5_counted 73 = .ok (.bipush 6, 2) := by decide +kernel
theorem dX5_counted_75 : decode cX5_counted 75 = .ok (.iaload, 1) := by decide +kernel
theorem dX5_counted_76 : decode cX5_counted 76 = .ok (.goto 9, 3) := by decide +kernel
theorem dX5_counted_79 : decode cX5_counted 79 = .ok (.aload_n 0, 1) := by decide +kernel
theorem dX5_counted_80 : decode cX5_counted 80 = .ok (.getfield 7, 3) := by decide +kernel
theorem dX5_counted_83 : decode cX5_counted 83 = .ok (.iconst 3, 1) := by decide +kernel
theorem dX5_counted_84 : decode cX5_counted 84 = .ok (.iaload, 1) := by decide +kernel
theorem dX5_counted_85 : decode cX5_counted 85 = .ok (.ireturn, 1) := by decide +kernel
theorem dX5_readsUntil_0 : decode cX5_readsUntil 0 = .ok (.aload_n 0, 1) := by decide +kernel
theorem dX5_readsUntil_1 : decode cX5_readsUntil 1 = .ok (.invokevirtual 192, 3) := by decide +kernel
theorem dX5_readsUntil_4 : decode cX5_readsUntil 4 = .ok (.istore_n 1, 1) := by decide +kernel
theorem dX5_readsUntil_5 : decode cX5_readsUntil 5 = .ok (.aload_n 0, 1) := by decide +kernel
theorem dX5_readsUntil_6 : decode cX5_readsUntil 6 = .ok (.iconst 0, 1) := by decide +kernel
theorem dX5_readsUntil_7 : decode cX5_readsUntil 7 = .ok (.sipush 999, 3) := by decide +kernel
theorem dX5_readsUntil_10 : decode cX5_readsUntil 10 = .ok (.invokevirtual 162, 3) := by decide +kernel
theorem dX5_readsUntil_13 : decode cX5_readsUntil 13 = .ok (.istore_n 2, 1) := by decide +kernel
theorem dX5_readsUntil_14 : decode cX5_readsUntil 14 = .ok (.aload_n 0, 1) := by decide +kernel
theorem dX5_readsUntil_15 : decode cX5_readsUntil 15 = .ok (.invokevirtual 135, 3) := by decide +kernel
theorem dX5_readsUntil_18 : decode cX5_readsUntil 18 = .ok (.ifCond .ne 31, 3) := by decide +kernel
theorem dX5_readsUntil_21 : decode cX5_readsUntil 21 = .ok (.aload_n 0, 1) := by decide +kernel
theorem dX5_readsUntil_22 : decode cX5_readsUntil 22 = .ok (.iload_n 1, 1) := by decide +kernel
theorem dX5_readsUntil_23 : decode cX5_readsUntil 23 = .ok (.invokevirtual 195, 3) := by decide +kernel
theorem dX5_readsUntil_26 : decode cX5_readsUntil 26 = .ok (.iload_n 2, 1) := by decide +kernel
theorem dX5_readsUntil_27 : decode cX5_readsUntil 27 = .ok (.if_icmp .ge 22, 3) := by decide +kernel
theorem dX5_readsUntil_30 : decode cX5_readsUntil 30 = .ok (.aload_n 0, 1) := by decide +kernel
theorem dX5_readsUntil_31 : decode cX5_readsUntil 31 = .ok (.getfield 7, 3) := by decide +kernel
theorem dX5_readsUntil_34 : decode cX5_readsUntil 34 = .ok (.iconst 3, 1) := by decide +kernel
theorem dX5_readsUntil_35 : decode cX5_readsUntil 35 = .ok (.iaload, 1) := by decide +kernel
theorem dX5_readsUntil_36 : decode cX5_readsUntil 36 = .ok (.sipush 999, 3) := by decide +kernel
theorem dX5_readsUntil_39 : decode cX5_readsUntil 39 = .ok (.if_icmp .ge 10, 3) := by decide +kernel
theorem dX5_readsUntil_42 : decode cX5_readsUntil 42 = .ok (.aload_n 0, 1) := by decide +kernel
theorem dX5_readsUntil_43 : decode cX5_readsUntil 43 = .ok (.invokevirtual 104, 3) := by decide +kernel
theorem dX5_readsUntil_46 : decode cX5_readsUntil 46 = .ok (.goto (-32), 3) := by decide +kernel
theorem dX5_readsUntil_49 : decode cX5_readsUntil 49 = .ok (.aload_n 0, 1) := by decide +kernel
theorem dX5_readsUntil_50 : decode cX5_readsUntil 50 = .ok (.invokevirtual 135, 3) := by decide +kernel
theorem dX5_readsUntil_53 : decode cX5_readsUntil 53 = .ok (.ifCond .ne 21, 3) := by decide +kernel
theorem dX5_readsUntil_56 : decode cX5_readsUntil 56 = .ok (.aload_n 0, 1) := by decide +kernel
theorem dX5_readsUntil_57 : decode cX5_readsUntil 57 = .ok (.iload_n 1, 1) := by decide +kernel
theorem dX5_readsUntil_58 : decode cX5_readsUntil 58 = .ok (.invokevirtual 195, 3) := by decide +kernel
theorem dX5_readsUntil_61 : decode cX5_readsUntil 61 = .ok (.iload_n 2, 1) := by decide +kernel
theorem dX5_readsUntil_62 : decode cX5_readsUntil 62 = .ok (.if_icmp .ge 12, 3) := by decide +kernel
theorem dX5_readsUntil_65 : decode cX5_readsUntil 65 = .ok (.aload_n 0, 1) := by decide +kernel
theorem dX5_readsUntil_66 : decode cX5_readsUntil 66 = .ok (.iconst 4, 1) := by decide +kernel
theorem dX5_readsUntil_67 : decode cX5_readsUntil 67 = .ok (.aload_n 0, 1) := by decide +kernel
theorem dX5_readsUntil_68 : decode cX5_readsUntil 68 = .ok (.getfield 151, 3) := by decide +kernel
theorem dX5_readsUntil_71 : decode cX5_readsUntil 71 = .ok (.invokevirtual 147, 3) := by decide +kernel
theorem dX5_readsUntil_74 : decode cX5_readsUntil 74 = .ok (.aload_n 0, 1) := by decide +kernel
theorem dX5_readsUntil_75 : decode cX5_readsUntil 75 = .ok (.invokevirtual 170, 3) := by decide +kernel
theorem dX5_readsUntil_78 : decode cX5_readsUntil 78 = .ok (.return_, 1) := by decide +kernel
theorem dX5_readsExpectation_0 : decode cX5_readsExpectation 0 = .ok (.aload_n 0, 1) := by decide +kernel
theorem dX5_readsExpectation_1 : decode cX5_readsExpectation 1 = .ok (.invokevirtual 192, 3) := by decide +kernel
theorem dX5_readsExpectation_4 : decode cX5_readsExpectation 4 = .ok (.istore_n 2, 1) := by decide +kernel
theorem dX5_readsExpectation_5 : decode cX5_readsExpectation 5 = .ok (.aload_n 0, 1) := by decide +kernel
theorem dX5_readsExpectation_6 : decode cX5_readsExpectation 6 = .ok (.iconst 0, 1) := by decide +kernel
theorem dX5_readsExpectation_7 : decode cX5_readsExpectation 7 = .ok (.sipush 999, 3) := by decide +kernel
theorem dX5_readsExpectation_10 : decode cX5_readsExpectation 10 = .ok (.invokevirtual 162, 3) := by decide +kernel
theorem dX5_readsExpectation_13 : decode cX5_readsExpectation 13 = .ok (.istore_n 3, 1) := by decide +kernel
theorem dX5_readsExpectation_14 : decode cX5_readsExpectation 14 = .ok (.aload_n 0, 1) := by decide +kernel
theorem dX5_readsExpectation_15 : decode cX5_readsExpectation 15 = .ok (.invokevirtual 135, 3) := by decide +kernel
theorem dX5_readsExpectation_18 : decode cX5_readsExpectation 18 = .ok (.ifCond .ne 18, 3) := by decide +kernel
theorem dX5_readsExpectation_21 : decode cX5_readsExpectation 21 = .ok (.aload_n 0, 1) := by decide +kernel
theorem dX5_readsExpectation_22 : decode cX5_readsExpectation 22 = .ok (.iload_n 2, 1) := by decide +kernel
theorem dX5_readsExpectation_23 : decode cX5_readsExpectation 23 = .ok (.invokevirtual 195, 3) := by decide +kernel
theorem dX5_readsExpectation_26 : decode cX5_readsExpectation 26 = .ok (.iload_n 3, 1) := by decide +kernel
theorem dX5_readsExpectation_27 : decode cX5_readsExpectation 27 = .ok (.if_icmp .eq 9, 3) := by decide +kernel
theorem dX5_readsExpectation_30 : decode cX5_readsExpectation 30 = .ok (.aload_n 0, 1) := by decide +kernel
theorem dX5_readsExpectation_31 : decode cX5_readsExpectation 31 = .ok (.iconst 5, 1) := by decide +kernel
theorem dX5_readsExpectation_32 : decode cX5_readsExpectation 32 = .ok (.iload_n 1, 1) := by decide +kernel
theorem dX5_readsExpectation_33 : decode cX5_readsExpectation 33 = .ok (.invokevirtual 147, 3) := by decide +kernel
theorem dX5_readsExpectation_36 : decode cX5_readsExpectation 36 = .ok (.aload_n 0, 1) := by decide +kernel
theorem dX5_readsExpectation_37 : decode cX5_readsExpectation 37 = .ok (.invokevirtual 170, 3) := by decide +kernel
theorem dX5_readsExpectation_40 : decode cX5_readsExpectation 40 = .ok (.return_, 1) := by decide +kernel
theorem dX5_bracket_0 : decode cX5_bracket 0 = .ok (.aload_n 0, 1) := by decide +kernel
theorem dX5_bracket_1 : decode cX5_bracket 1 = .ok (.invokevirtual 135, 3) := by decide +kernel
theorem dX5_bracket_4 : decode cX5_bracket 4 = .ok (.ifCond .eq 4, 3) := by decide +kernel
theorem dX5_bracket_7 : decode cX5_bracket 7 = .ok (.return_, 1) := by decide +kernel
theorem dX5_bracket_8 : decode cX5_bracket 8 = .ok (.aload_n 0, 1) := by decide +kernel
theorem dX5_bracket_9 : decode cX5_bracket 9 = .ok (.invokevirtual 132, 3) := by decide +kernel
theorem dX5_bracket_12 : decode cX5_bracket 12 = .ok (.iload_n 1, 1) := by decide +kernel
theorem dX5_bracket_13 : decode cX5_bracket 13 = .ok (.if_icmp .eq 13, 3) := by decide +kernel
theorem dX5_bracket_16 : decode cX5_bracket 16 = .ok (.aload_n 0, 1) := by decide +kernel
theorem dX5_bracket_17 : decode cX5_bracket 17 = .ok (.iconst 1, 1) := by decide +kernel
theorem dX5_bracket_18 : decode cX5_bracket 18 = .ok (.aload_n 0, 1) := by decide +kernel
theorem dX5_bracket_19 : decode cX5_bracket 19 = .ok (.getfield 123, 3) := by decide +kernel
theorem dX5_bracket_22 : decode cX5_bracket 22 = .ok (.invokevirtual 147, 3) := by decide +kernel
theorem dX5_bracket_25 : decode cX5_bracket 25 = .ok (.return_, 1) := by decide +kernel
theorem dX5_bracket_26 : decode cX5_bracket 26 = .ok (.aload_n 0, 1) := by decide +kernel
theorem dX5_bracket_27 : decode cX5_bracket 27 = .ok (.dup, 1) := by decide +kernel
theorem dX5_bracket_28 : decode cX5_bracket 28 = .ok (.getfield 123, 3) := by decide +kernel
theorem dX5_bracket_31 : decode cX5_bracket 31 = .ok (.iconst 1, 1) := by decide +kernel
theorem dX5_bracket_32 : decode cX5_bracket 32 = .ok (.iadd, 1) := by decide +kernel
theorem dX5_bracket_33 : decode cX5_bracket 33 = .ok (.putfield 123, 3) := by decide +kernel
theorem dX5_bracket_36 : decode cX5_bracket 36 = .ok (.return_, 1) := by decide +kernel
theorem dX5_repeats_0 : decode cX5_repeats 0 = .ok (.aload_n 0, 1) := by decide +kernel
theorem dX5_repeats_1 : decode cX5_repeats 1 = .ok (.iconst 1, 1) := by decide +kernel
theorem dX5_repeats_2 : decode cX5_repeats 2 = .ok (.bipush 9, 2) := by decide +kernel
theorem dX5_repeats_4 : decode cX5_repeats 4 = .ok (.invokevirtual 162, 3) := by decide +kernel
theorem dX5_repeats_7 : decode cX5_repeats 7 = .ok (.istore_n 1, 1) := by decide +kernel
theorem dX5_repeats_8 : decode cX5_repeats 8 = .ok (.aload_n 0, 1) := by decide +kernel
theorem dX5_repeats_9 : decode cX5_repeats 9 = .ok (.bipush 40, 2) := by decide +kernel
theorem dX5_repeats_11 : decode cX5_repeats 11 = .ok (.invokevirtual 198, 3) := by decide +kernel
theorem dX5_repeats_14 : decode cX5_repeats 14 = .ok (.aload_n 0, 1) := by decide +kernel
theorem dX5_repeats_15 : decode cX5_repeats 15 = .ok (.getfield 123, 3) := by decide +kernel
theorem dX5_repeats_18 : decode cX5_repeats 18 = .ok (.istore_n 2, 1) := by decide +kernel
theorem dX5_repeats_19 : decode cX5_repeats 19 = .ok (.iconst 0, 1) := by decide +kernel
theorem dX5_repeats_20 : decode cX5_repeats 20 = .ok (.istore_n 3, 1) := by decide +kernel
theorem dX5_repeats_21 : decode cX5_repeats 21 = .ok (.iload_n 3, 1) := by decide +kernel
theorem dX5_repeats_22 : decode cX5_repeats 22 = .ok (.iload_n 1, 1) := by decide +kernel
theorem dX5_repeats_23 : decode cX5_repeats 23 = .ok (.if_icmp .ge 55, 3) := by decide +kernel
theorem dX5_repeats_26 : decode cX5_repeats 26 = .ok (.aload_n 0, 1) := by decide +kernel
theorem dX5_repeats_27 : decode cX5_repeats 27 = .ok (.invokevirtual 135, 3) := by decide +kernel
theorem dX5_repeats_30 : decode cX5_repeats 30 = .ok (.ifCond .ne 48, 3) := by decide +kernel
theorem dX5_repeats_33 : decode cX5_repeats 33 = .ok (.aload_n 0, 1) := by decide +kernel
theorem dX5_repeats_34 : decode cX5_repeats 34 = .ok (.iload_n 2, 1) := by decide +kernel
theorem dX5_repeats_35 : decode cX5_repeats 35 = .ok (.putfield 123, 3) := by decide +kernel
theorem dX5_repeats_38 : decode cX5_repeats 38 = .ok (.aload_n 0, 1) := by decide +kernel
theorem dX5_repeats_39 : decode cX5_repeats 39 = .ok (.invokevirtual 135, 3) := by decide +kernel
theorem dX5_repeats_42 : decode cX5_repeats 42 = .ok (.ifCond .ne 24, 3) := by decide +kernel
theorem dX5_repeats_45 : decode cX5_repeats 45 = .ok (.aload_n 0, 1) := by decide +kernel
theorem dX5_repeats_46 : decode cX5_repeats 46 = .ok (.invokevirtual 132, 3) := by decide +kernel
theorem dX5_repeats_49 : decode cX5_repeats 49 = .ok (.bipush 97, 2) := by decide +kernel
theorem dX5_repeats_51 : decode cX5_repeats 51 = .ok (.bipush 122, 2) := by decide +kernel
theorem dX5_repeats_53 : decode cX5_repeats 53 = .ok (.invokestatic 63, 3) := by decide +kernel
theorem dX5_repeats_56 : decode cX5_repeats 56 = .ok (.ifCond .eq 10, 3) := by decide +kernel
theorem dX5_repeats_59 : decode cX5_repeats 59 = .ok (.aload_n 0, 1) := by decide +kernel
theorem dX5_repeats_60 : decode cX5_repeats 60 = .ok (.invokevirtual 201, 3) := by decide +kernel
theorem dX5_repeats_63 : decode cX5_repeats 63 = .ok (.goto (-25), 3) := by decide +kernel
theorem dX5_repeats_66 : decode cX5_repeats 66 = .ok (.aload_n 0, 1) := by decide +kernel
theorem dX5_repeats_67 : decode cX5_repeats 67 = .ok (.bipush 41, 2) := by decide +kernel
theorem dX5_repeats_69 : decode cX5_repeats 69 = .ok (.invokevirtual 198, 3) := by decide +kernel
theorem dX5_repeats_72 : decode cX5_repeats 72 = .ok (.iinc 3 1, 3) := by decide +kernel
theorem dX5_repeats_75 : decode cX5_repeats 75 = .ok (.goto (-54), 3) := by decide +kernel
theorem dX5_repeats_78 : decode cX5_repeats 78 = .ok (.aload_n 0, 1) := by decide +kernel
theorem dX5_repeats_79 : decode cX5_repeats 79 = .ok (.invokevirtual 170, 3) := by decide +kernel
theorem dX5_repeats_82 : decode cX5_repeats 82 = .ok (.return_, 1) := by decide +kernel
theorem dX5_command_0 : decode cX5_command 0 = .ok (.aload_n 0, 1) := by decide +kernel
theorem dX5_command_1 : decode cX5_command 1 = .ok (.ldc 204, 2) := by decide +kernel
theorem dX5_command_3 : decode cX5_command 3 = .ok (.invokevirtual 155, 3) := by decide +kernel
theorem dX5_command_6 : decode cX5_command 6 = .ok (.ifCond .eq 10, 3) := by decide +kernel
theorem dX5_command_9 : decode cX5_command 9 = .ok (.aload_n 0, 1) := by decide +kernel
theorem dX5_command_10 : decode cX5_command 10 = .ok (.invokevirtual 206, 3) := by decide +kernel
theorem dX5_command_13 : decode cX5_command 13 = .ok (.goto 7, 3) := by decide +kernel
theorem dX5_command_16 : decode cX5_command 16 = .ok (.aload_n 0, 1) := by decide +kernel
theorem dX5_command_17 : decode cX5_command 17 = .ok (.invokevirtual 201, 3) := by decide +kernel
theorem dX5_command_20 : decode cX5_command 20 = .ok (.return_, 1) := by decide +kernel
theorem dX5_simple_0 : decode cX5_simple 0 = .ok (.aload_n 0, 1) := by decide +kernel
theorem dX5_simple_1 : decode cX5_simple 1 = .ok (.dup, 1) := by decide +kernel
theorem dX5_simple_2 : decode cX5_simple 2 = .ok (.getfield 209, 3) := by decide +kernel
theorem dX5_simple_5 : decode cX5_simple 5 = .ok (.iconst 1, 1) := by decide +kernel
theorem dX5_simple_6 : decode cX5_simple 6 = .ok (.iadd, 1) := by decide +kernel
theorem dX5_simple_7 : decode cX5_simple 7 = .ok (.putfield 209, 3) := by decide +kernel
theorem dX5_simple_10 : decode cX5_simple 10 = .ok (.aload_n 0, 1) := by decide +kernel
theorem dX5_simple_11 : decode cX5_simple 11 = .ok (.invokevirtual 132, 3) := by decide +kernel
theorem dX5_simple_14 : decode cX5_simple 14 = .ok (.istore_n 1, 1) := by decide +kernel
theorem dX5_simple_15 : decode cX5_simple 15 = .ok (.aload_n 0, 1) := by decide +kernel
theorem dX5_simple_16 : decode cX5_simple 16 = .ok (.getfield 123, 3) := by decide +kernel
theorem dX5_simple_19 : decode cX5_simple 19 = .ok (.istore_n 2, 1) := by decide +kernel
theorem dX5_simple_20 : decode cX5_simple 20 = .ok (.aload_n 0, 1) := by decide +kernel
theorem dX5_simple_21 : decode cX5_simple 21 = .ok (.ldc 212, 2) := by decide +kernel
theorem dX5_simple_23 : decode cX5_simple 23 = .ok (.invokevirtual 155, 3) := by decide +kernel
theorem dX5_simple_26 : decode cX5_simple 26 = .ok (.ifCond .eq 28, 3) := by decide +kernel
theorem dX5_simple_29 : decode cX5_simple 29 = .ok (.aload_n 0, 1) := by decide +kernel
theorem dX5_simple_30 : decode cX5_simple 30 = .ok (.getfield 7, 3) := by decide +kernel
theorem dX5_simple_33 : decode cX5_simple 33 = .ok (.bipush 10, 2) := by decide +kernel
theorem dX5_simple_35 : decode cX5_simple 35 = .ok (.iaload, 1) := by decide +kernel
theorem dX5_simple_36 : decode cX5_simple 36 = .ok (.bipush 40, 2) := by decide +kernel
theorem dX5_simple_38 : decode cX5_simple 38 = .ok (.if_icmp .ne 9, 3) := by decide +kernel
theorem dX5_simple_41 : decode cX5_simple 41 = .ok (.aload_n 0, 1) := by decide +kernel
theorem dX5_simple_42 : decode cX5_simple 42 = .ok (.iconst 3, 1) := by decide +kernel
theorem dX5_simple_43 : decode cX5_simple 43 = .ok (.iload_n 2, 1) := by decide +kernel
theorem dX5_simple_44 : decode cX5_simple 44 = .ok (.invokevirtual 147, 3) := by decide +kernel
theorem dX5_simple_47 : decode cX5_simple 47 = .ok (.aload_n 0, 1) := by decide +kernel
theorem dX5_simple_48 : decode cX5_simple 48 = .ok (.invokevirtual 214, 3) := by decide +kernel
theorem dX5_simple_51 : decode cX5_simple 51 = .ok (.goto 174, 3) := by decide +kernel
theorem dX5_simple_54 : decode cX5_simple 54 = .ok (.aload_n 0, 1) := by decide +kernel
theorem dX5_simple_55 : decode cX5_simple 55 = .ok (.ldc 217, 2) := by decide +kernel
theorem dX5_simple_57 : decode cX5_simple 57 = .ok (.invokevirtual 155, 3) := by decide +kernel
theorem dX5_simple_60 : decode cX5_simple 60 = .ok (.ifCond .eq 10, 3) := by decide +kernel
theorem dX5_simple_63 : decode cX5_simple 63 = .ok (.aload_n 0, 1) := by decide +kernel
theorem dX5_simple_64 : decode cX5_simple 64 = .ok (.invokevirtual 219, 3) := by decide +kernel
theorem dX5_simple_67 : decode cX5_simple 67 = .ok (.goto 158, 3) := by decide +kernel
theorem dX5_simple_70 : decode cX5_simple 70 = .ok (.aload_n 0, 1) := by decide +kernel
theorem dX5_simple_71 : decode cX5_simple 71 = .ok (.ldc 222, 2) := by decide +kernel
theorem dX5_simple_73 : decode cX5_simple 73 = .ok (.invokevirtual 155, 3) := by decide +kernel
theorem dX5_simple_76 : decode cX5_simple 76 = .ok (.ifCond .eq 29, 3) := by decide +kernel
theorem dX5_simple_79 : decode cX5_simple 79 = .ok (.aload_n 0, 1) := by decide +kernel
theorem dX5_simple_80 : decode cX5_simple 80 = .ok (.invokevirtual 170, 3) := by decide +kernel
theorem dX5_simple_83 : decode cX5_simple 83 = .ok (.aload_n 0, 1) := by decide +kernel
theorem dX5_simple_84 : decode cX5_simple 84 = .ok (.invokevirtual 135, 3) := by decide +kernel
theorem dX5_simple_87 : decode cX5_simple 87 = .ok (.ifCond .eq 7, 3) := by decide +kernel
theorem dX5_simple_90 : decode cX5_simple 90 = .ok (.iconst 0, 1) := by decide +kernel
theorem dX5_simple_91 : decode cX5_simple 91 = .ok (.goto 10, 3) := by decide +kernel
theorem dX5_simple_94 : decode cX5_simple 94 = .ok (.aload_n 0, 1) := by decide +kernel
theorem dX5_simple_95 : decode cX5_simple 95 = .ok (.sipush 999, 3) := by decide +kernel
theorem dX5_simple_98 : decode cX5_simple 98 = .ok (.invokevirtual 108, 3) := by decide +kernel
theorem dX5_simple_101 : decode cX5_simple 101 = .ok (.istore_n 3, 1) := by decide +kernel
theorem dX5_simple_102 : decode cX5_simple 102 = .ok (.goto 123, 3) := by decide +kernel
theorem dX5_simple_105 : decode cX5_simple 105 = .ok (.aload_n 0, 1) := by decide +kernel
theorem dX5_simple_106 : decode cX5_simple 106 = .ok (.ldc 224, 2) := by decide +kernel
theorem dX5_simple_108 : decode cX5_simple 108 = .ok (.invokevirtual 155, 3) := by decide +kernel
theorem dX5_simple_111 : decode cX5_simple 111 = .ok (.ifCond .eq 10, 3) := by decide +kernel
theorem dX5_simple_114 : decode cX5_simple 114 = .ok (.aload_n 0, 1) := by decide +kernel
theorem dX5_simple_115 : decode cX5_simple 115 = .ok (.invokevirtual 226, 3) := by decide +kernel
theorem dX5_simple_118 : decode cX5_simple 118 = .ok (.goto 107, 3) := by decide +kernel
theorem dX5_simple_121 : decode cX5_simple 121 = .ok (.aload_n 0, 1) := by decide +kernel
theorem dX5_simple_122 : decode cX5_simple 122 = .ok (.ldc 229, 2) := by decide +kernel
theorem dX5_simple_124 : decode cX5_simple 124 = .ok (.invokevirtual 155, 3) := by decide +kernel
theorem dX5_simple_127 : decode cX5_simple 127 = .ok (.ifCond .eq 40, 3) := by decide +kernel
theorem dX5_simple_130 : decode cX5_simple 130 = .ok (.aload_n 0, 1) := by decide +kernel
theorem dX5_simple_131 : decode cX5_simple 131 = .ok (.invokevirtual 170, 3) := by decide +kernel
theorem dX5_simple_134 : decode cX5_simple 134 = .ok (.aload_n 0, 1) := by decide +kernel
theorem dX5_simple_135 : decode cX5_simple 135 = .ok (.getfield 7, 3) := by decide +kernel
theorem dX5_simple_138 : decode cX5_simple 138 = .ok (.iconst 5, 1) := by decide +kernel
theorem dX5_simple_139 : decode cX5_simple 139 = .ok (.aload_n 0, 1) := by decide +kernel
theorem dX5_simple_140 : decode cX5_simple 140 = .ok (.invokevirtual 135, 3) := by decide +kernel
theorem dX5_simple_143 : decode cX5_simple 143 = .ok (.ifCond .eq 12, 3) := by decide +kernel
theorem dX5_simple_146 : decode cX5_simple 146 = .ok (.aload_n 0, 1) := by decide +kernel
theorem dX5_simple_147 : decode cX5_simple 147 = .ok (.getfield 7, 3) := by decide +kernel
theorem dX5_simple_150 : decode cX5_simple 150 = .ok (.iconst 5, 1) := by decide +kernel
theorem dX5_simple_151 : decode cX5_simple 151 = .ok (.iaload, 1) := by decide +kernel
theorem dX5_simple_152 : decode cX5_simple 152 = .ok (.goto 11, 3) := by decide +kernel
theorem dX5_simple_155 : decode cX5_simple 155 = .ok (.iconst 1, 1) := by decide +kernel
theorem dX5_simple_156 : decode cX5_simple 156 = .ok (.aload_n 0, 1) := by decide +kernel
theorem dX5_simple_157 : decode cX5_simple 157 = .ok (.getfield 7, 3) := by decide +kernel
theorem dX5_simple_160 : decode cX5_simple 160 = .ok (.iconst 5, 1) := by decide +kernel
theorem dX5_simple_161 : decode cX5_simple 161 = .ok (.iaload, 1) := by decide +kernel
theorem dX5_simple_162 : decode cX5_simple 162 = .ok (.isub, 1) := by decide +kernel
theorem dX5_simple_163 : decode cX5_simple 163 = .ok (.iastore, 1) := by decide +kernel
theorem dX5_simple_164 : decode cX5_simple 164 = .ok (.goto 61, 3) := by decide +kernel
theorem dX5_simple_167 : decode cX5_simple 167 = .ok (.aload_n 0, 1) := by decide +kernel
theorem dX5_simple_168 : decode cX5_simple 168 = .ok (.ldc 231, 2) := by decide +kernel
theorem dX5_simple_170 : decode cX5_simple 170 = .ok (.invokevirtual 155, 3) := by decide +kernel
theorem dX5_simple_173 : decode cX5_simple 173 = .ok (.ifCond .eq 10, 3) := by decide +kernel
theorem dX5_simple_176 : decode cX5_simple 176 = .ok (.aload_n 0, 1) := by decide +kernel
theorem dX5_simple_177 : decode cX5_simple 177 = .ok (.invokevirtual 233, 3) := by decide +kernel
theorem dX5_simple_180 : decode cX5_simple 180 = .ok (.goto 45, 3) := by decide +kernel
theorem dX5_simple_183 : decode cX5_simple 183 = .ok (.aload_n 0, 1) := by decide +kernel
theorem dX5_simple_184 : decode cX5_simple 184 = .ok (.ldc 236, 2) := by decide +kernel
theorem dX5_simple_186 : decode cX5_simple 186 = .ok (.invokevirtual 155, 3) := by decide +kernel
theorem dX5_simple_189 : decode cX5_simple 189 = .ok (.ifCond .eq 10, 3) := by decide +kernel
theorem dX5_simple_192 : decode cX5_simple 192 = .ok (.aload_n 0, 1) := by decide +kernel
theorem dX5_simple_193 : decode cX5_simple 193 = .ok (.invokevirtual 238, 3) := by decide +kernel
theorem dX5_simple_196 : decode cX5_simple 196 = .ok (.goto 29, 3) := by decide +kernel
theorem dX5_simple_199 : decode cX5_simple 199 = .ok (.aload_n 0, 1) := by decide +kernel
theorem dX5_simple_200 : decode cX5_simple 200 = .ok (.ldc 241, 2) := by decide +kernel
theorem dX5_simple_202 : decode cX5_simple 202 = .ok (.invokevirtual 155, 3) := by decide +kernel
theorem dX5_simple_205 : decode cX5_simple 205 = .ok (.ifCond .eq 11, 3) := by decide +kernel
theorem dX5_simple_208 : decode cX5_simple 208 = .ok (.aload_n 0, 1) := by decide +kernel
theorem dX5_simple_209 : decode cX5_simple 209 = .ok (.iload_n 2, 1) := by decide +kernel
theorem dX5_simple_210 : decode cX5_simple 210 = .ok (.invokevirtual 243, 3) := by decide +kernel
theorem dX5_simple_213 : decode cX5_simple 213 = .ok (.goto 12, 3) := by decide +kernel
theorem dX5_simple_216 : decode cX5_simple 216 = .ok (.aload_n 0, 1) := by decide +kernel
theorem dX5_simple_217 : decode cX5_simple 217 = .ok (.iconst 1, 1) := by decide +kernel
theorem dX5_simple_218 : decode cX5_simple 218 = .ok (.aload_n 0, 1) := by decide +kernel
theorem dX5_simple_219 : decode cX5_simple 219 = .ok (.getfield 123, 3) := by decide +kernel
theorem dX5_simple_222 : decode cX5_simple 222 = .ok (.invokevirtual 147, 3) := by decide +kernel
theorem dX5_simple_225 : decode cX5_simple 225 = .ok (.return_, 1) := by decide +kernel
theorem dX5_commands_0 : decode cX5_commands 0 = .ok (.aload_n 0, 1) := by decide +kernel
theorem dX5_commands_1 : decode cX5_commands 1 = .ok (.iconst 0, 1) := by decide +kernel
theorem dX5_commands_2 : decode cX5_commands 2 = .ok (.putfield 209, 3) := by decide +kernel
theorem dX5_commands_5 : decode cX5_commands 5 = .ok (.aload_n 0, 1) := by decide +kernel
theorem dX5_commands_6 : decode cX5_commands 6 = .ok (.invokevirtual 135, 3) := by decide +kernel
theorem dX5_commands_9 : decode cX5_commands 9 = .ok (.ifCond .ne 18, 3) := by decide +kernel
theorem dX5_commands_12 : decode cX5_commands 12 = .ok (.aload_n 0, 1) := by decide +kernel
theorem dX5_commands_13 : decode cX5_commands 13 = .ok (.invokevirtual 132, 3) := by decide +kernel
theorem dX5_commands_16 : decode cX5_commands 16 = .ok (.iconst (-1), 1) := by decide +kernel
theorem dX5_commands_17 : decode cX5_commands 17 = .ok (.if_icmp .eq 10, 3) := by decide +kernel
theorem dX5_commands_20 : decode cX5_commands 20 = .ok (.aload_n 0, 1) := by decide +kernel
theorem dX5_commands_21 : decode cX5_commands 21 = .ok (.invokevirtual 246, 3) := by decide +kernel
theorem dX5_commands_24 : decode cX5_commands 24 = .ok (.goto (-19), 3) := by decide +kernel
theorem dX5_commands_27 : decode cX5_commands 27 = .ok (.aload_n 0, 1) := by decide +kernel
theorem dX5_commands_28 : decode cX5_commands 28 = .ok (.invokevirtual 135, 3) := by decide +kernel
theorem dX5_commands_31 : decode cX5_commands 31 = .ok (.ifCond .eq 16, 3) := by decide +kernel
theorem dX5_commands_34 : decode cX5_commands 34 = .ok (.aload_n 0, 1) := by decide +kernel
theorem dX5_commands_35 : decode cX5_commands 35 = .ok (.bipush 10, 2) := by decide +kernel
theorem dX5_commands_37 : decode cX5_commands 37 = .ok (.invokevirtual 249, 3) := by decide +kernel
theorem dX5_commands_40 : decode cX5_commands 40 = .ok (.aload_n 0, 1) := by decide +kernel
theorem dX5_commands_41 : decode cX5_commands 41 = .ok (.iconst 1, 1) := by decide +kernel
theorem dX5_commands_42 : decode cX5_commands 42 = .ok (.putfield 27, 3) := by decide +kernel
theorem dX5_commands_45 : decode cX5_commands 45 = .ok (.iconst (-1), 1) := by decide +kernel
theorem dX5_commands_46 : decode cX5_commands 46 = .ok (.ireturn, 1) := by decide +kernel
theorem dX5_commands_47 : decode cX5_commands 47 = .ok (.aload_n 0, 1) := by decide +kernel
theorem dX5_commands_48 : decode cX5_commands 48 = .ok (.getfield 209, 3) := by decide +kernel
theorem dX5_commands_51 : decode cX5_commands 51 = .ok (.ireturn, 1) := by decide +kernel
theorem dX5_load_0 : decode cX5_load 0 = .ok (.aload_n 0, 1) := by decide +kernel
theorem dX5_load_1 : decode cX5_load 1 = .ok (.iconst 0, 1) := by decide +kernel
theorem dX5_load_2 : decode cX5_load 2 = .ok (.putfield 27, 3) := by decide +kernel
theorem dX5_load_5 : decode cX5_load 5 = .ok (.aload_n 0, 1) := by decide +kernel
theorem dX5_load_6 : decode cX5_load 6 = .ok (.invokevirtual 252, 3) := by decide +kernel
theorem dX5_load_9 : decode cX5_load 9 = .ok (.iconst 0, 1) := by decide +kernel
theorem dX5_load_10 : decode cX5_load 10 = .ok (.istore_n 1, 1) := by decide +kernel
theorem dX5_load_11 : decode cX5_load 11 = .ok (.iload_n 1, 1) := by decide +kernel
theorem dX5_load_12 : decode cX5_load 12 = .ok (.sipush 211, 3) := by decide +kernel
theorem dX5_load_15 : decode cX5_load 15 = .ok (.if_icmp .ge 16, 3) := by decide +kernel
theorem dX5_load_18 : decode cX5_load 18 = .ok (.aload_n 0, 1) := by decide +kernel
theorem dX5_load_19 : decode cX5_load 19 = .ok (.getfield 7, 3) := by decide +kernel
theorem dX5_load_22 : decode cX5_load 22 = .ok (.iload_n 1, 1) := by decide +kernel
theorem dX5_load_23 : decode cX5_load 23 = .ok (.iconst 0, 1) := by decide +kernel
theorem dX5_load_24 : decode cX5_load 24 = .ok (.iastore, 1) := by decide +kernel
theorem dX5_load_25 : decode cX5_load 25 = .ok (.iinc 1 1, 3) := by decide +kernel
theorem dX5_load_28 : decode cX5_load 28 = .ok (.goto (-17), 3) := by decide +kernel
theorem dX5_load_31 : decode cX5_load 31 = .ok (.aload_n 0, 1) := by decide +kernel
theorem dX5_load_32 : decode cX5_load 32 = .ok (.getfield 7, 3) := by decide +kernel
theorem dX5_load_35 : decode cX5_load 35 = .ok (.iconst 5, 1) := by decide +kernel
theorem dX5_load_36 : decode cX5_load 36 = .ok (.iconst 1, 1) := by decide +kernel
theorem dX5_load_37 : decode cX5_load 37 = .ok (.iastore, 1) := by decide +kernel
theorem dX5_load_38 : decode cX5_load 38 = .ok (.aload_n 0, 1) := by decide +kernel
theorem dX5_load_39 : decode cX5_load 39 = .ok (.ldc 255, 2) := by decide +kernel
theorem dX5_load_41 : decode cX5_load 41 = .ok (.invokevirtual 155, 3) := by decide +kernel
theorem dX5_load_44 : decode cX5_load 44 = .ok (.ifCond .ne 12, 3) := by decide +kernel
theorem dX5_load_47 : decode cX5_load 47 = .ok (.aload_n 0, 1) := by decide +kernel
theorem dX5_load_48 : decode cX5_load 48 = .ok (.iconst 1, 1) := by decide +kernel
theorem dX5_load_49 : decode cX5_load 49 = .ok (.aload_n 0, 1) := by decide +kernel
theorem dX5_load_50 : decode cX5_load 50 = .ok (.getfield 123, 3) := by decide +kernel
theorem dX5_load_53 : decode cX5_load 53 = .ok (.invokevirtual 147, 3) := by decide +kernel
theorem dX5_load_56 : decode cX5_load 56 = .ok (.aload_n 0, 1) := by decide +kernel
theorem dX5_load_57 : decode cX5_load 57 = .ok (.getfield 7, 3) := by decide +kernel
theorem dX5_load_60 : decode cX5_load 60 = .ok (.iconst 0, 1) := by decide +kernel
theorem dX5_load_61 : decode cX5_load 61 = .ok (.aload_n 0, 1) := by decide +kernel
theorem dX5_load_62 : decode cX5_load 62 = .ok (.iconst 2, 1) := by decide +kernel
theorem dX5_load_63 : decode cX5_load 63 = .ok (.bipush 20, 2) := by decide +kernel
theorem dX5_load_65 : decode cX5_load 65 = .ok (.invokevirtual 162, 3) := by decide +kernel
theorem dX5_load_68 : decode cX5_load 68 = .ok (.iastore, 1) := by decide +kernel
theorem dX5_load_69 : decode cX5_load 69 = .ok (.aload_n 0, 1) := by decide +kernel
theorem dX5_load_70 : decode cX5_load 70 = .ok (.getfield 7, 3) := by decide +kernel
theorem dX5_load_73 : decode cX5_load 73 = .ok (.iconst 1, 1) := by decide +kernel
theorem dX5_load_74 : decode cX5_load 74 = .ok (.aload_n 0, 1) := by decide +kernel
theorem dX5_load_75 : decode cX5_load 75 = .ok (.iconst 1, 1) := by decide +kernel
theorem dX5_load_76 : decode cX5_load 76 = .ok (.bipush 8, 2) := by decide +kernel
theorem dX5_load_78 : decode cX5_load 78 = .ok (.invokevirtual 162, 3) := by decide +kernel
theorem dX5_load_81 : decode cX5_load 81 = .ok (.iastore, 1) := by decide +kernel
theorem dX5_load_82 : decode cX5_load 82 = .ok (.aload_n 0, 1) := by decide +kernel
theorem dX5_load_83 : decode cX5_load 83 = .ok (.getfield 7, 3) := by decide +kernel
theorem dX5_load_86 : decode cX5_load 86 = .ok (.iconst 2, 1) := by decide +kernel
theorem dX5_load_87 : decode cX5_load 87 = .ok (.aload_n 0, 1) := by decide +kernel
theorem dX5_load_88 : decode cX5_load 88 = .ok (.invokevirtual 177, 3) := by decide +kernel
theorem dX5_load_91 : decode cX5_load 91 = .ok (.iastore, 1) := by decide +kernel
theorem dX5_load_92 : decode cX5_load 92 = .ok (.aload_n 0, 1) := by decide +kernel
theorem dX5_load_93 : decode cX5_load 93 = .ok (.invokevirtual 170, 3) := by decide +kernel
theorem dX5_load_96 : decode cX5_load 96 = .ok (.aload_n 0, 1) := by decide +kernel
theorem dX5_load_97 : decode cX5_load 97 = .ok (.invokevirtual 257, 3) := by decide +kernel
theorem dX5_load_100 : decode cX5_load 100 = .ok (.iconst (-1), 1) := by decide +kernel
theorem dX5_load_101 : decode cX5_load 101 = .ok (.if_icmp .ne 5, 3) := by decide +kernel
theorem dX5_load_104 : decode cX5_load 104 = .ok (.iconst 0, 1) := by decide +kernel
theorem dX5_load_105 : decode cX5_load 105 = .ok (.ireturn, 1) := by decide +kernel
theorem dX5_load_106 : decode cX5_load 106 = .ok (.aload_n 0, 1) := by decide +kernel
theorem dX5_load_107 : decode cX5_load 107 = .ok (.iconst 0, 1) := by decide +kernel
theorem dX5_load_108 : decode cX5_load 108 = .ok (.putfield 111, 3) := by decide +kernel
theorem dX5_load_111 : decode cX5_load 111 = .ok (.aload_n 0, 1) := by decide +kernel
theorem dX5_load_112 : decode cX5_load 112 = .ok (.iconst 0, 1) := by decide +kernel
theorem dX5_load_113 : decode cX5_load 113 = .ok (.putfield 260, 3) := by decide +kernel
theorem dX5_load_116 : decode cX5_load 116 = .ok (.aload_n 0, 1) := by decide +kernel
theorem dX5_load_117 : decode cX5_load 117 = .ok (.iconst 0, 1) := by decide +kernel
theorem dX5_load_118 : decode cX5_load 118 = .ok (.putfield 264, 3) := by decide +kernel
theorem dX5_load_121 : decode cX5_load 121 = .ok (.aload_n 0, 1) := by decide +kernel
theorem dX5_load_122 : decode cX5_load 122 = .ok (.getfield 7, 3) := by decide +kernel
theorem dX5_load_125 : decode cX5_load 125 = .ok (.bipush 10, 2) := by decide +kernel
theorem dX5_load_127 : decode cX5_load 127 = .ok (.iaload, 1) := by decide +kernel
theorem dX5_load_128 : decode cX5_load 128 = .ok (.ireturn, 1) := by decide +kernel
theorem dX5_play_0 : decode cX5_play 0 = .ok (.aload_n 0, 1) := by decide +kernel
theorem dX5_play_1 : decode cX5_play 1 = .ok (.iconst 0, 1) := by decide +kernel
theorem dX5_play_2 : decode cX5_play 2 = .ok (.putfield 27, 3) := by decide +kernel
theorem dX5_play_5 : decode cX5_play 5 = .ok (.aload_n 0, 1) := by decide +kernel
theorem dX5_play_6 : decode cX5_play 6 = .ok (.invokevirtual 252, 3) := by decide +kernel
theorem dX5_play_9 : decode cX5_play 9 = .ok (.aload_n 0, 1) := by decide +kernel
theorem dX5_play_10 : decode cX5_play 10 = .ok (.invokevirtual 257, 3) := by decide +kernel
theorem dX5_play_13 : decode cX5_play 13 = .ok (.istore_n 1, 1) := by decide +kernel
theorem dX5_play_14 : decode cX5_play 14 = .ok (.iload_n 1, 1) := by decide +kernel
theorem dX5_play_15 : decode cX5_play 15 = .ok (.iconst (-1), 1) := by decide +kernel
theorem dX5_play_16 : decode cX5_play 16 = .ok (.if_icmp .ne 5, 3) := by decide +kernel
theorem dX5_play_19 : decode cX5_play 19 = .ok (.iconst 0, 1) := by decide +kernel
theorem dX5_play_20 : decode cX5_play 20 = .ok (.ireturn, 1) := by decide +kernel
theorem dX5_play_21 : decode cX5_play 21 = .ok (.aload_n 0, 1) := by decide +kernel
theorem dX5_play_22 : decode cX5_play 22 = .ok (.bipush 11, 2) := by decide +kernel
theorem dX5_play_24 : decode cX5_play 24 = .ok (.invokevirtual 114, 3) := by decide +kernel
theorem dX5_play_27 : decode cX5_play 27 = .ok (.aload_n 0, 1) := by decide +kernel
theorem dX5_play_28 : decode cX5_play 28 = .ok (.bipush 10, 2) := by decide +kernel
theorem dX5_play_30 : decode cX5_play 30 = .ok (.invokevirtual 249, 3) := by decide +kernel
theorem dX5_play_33 : decode cX5_play 33 = .ok (.aload_n 0, 1) := by decide +kernel
theorem dX5_play_34 : decode cX5_play 34 = .ok (.invokevirtual 267, 3) := by decide +kernel
theorem dX5_play_37 : decode cX5_play 37 = .ok (.aload_n 0, 1) := by decide +kernel
theorem dX5_play_38 : decode cX5_play 38 = .ok (.bipush 11, 2) := by decide +kernel
theorem dX5_play_40 : decode cX5_play 40 = .ok (.invokevirtual 249, 3) := by decide +kernel
theorem dX5_play_43 : decode cX5_play 43 = .ok (.iload_n 1, 1) := by decide +kernel
theorem dX5_play_44 : decode cX5_play 44 = .ok (.ireturn, 1) := by decide +kernel
theorem dX5_parseError_0 : decode cX5_parseError 0 = .ok (.aload_n 0, 1) := by decide +kernel
theorem dX5_parseError_1 : decode cX5_parseError 1 = .ok (.iconst 0, 1) := by decide +kernel
theorem dX5_parseError_2 : decode cX5_parseError 2 = .ok (.putfield 27, 3) := by decide +kernel
theorem dX5_parseError_5 : decode cX5_parseError 5 = .ok (.aload_n 0, 1) := by decide +kernel
theorem dX5_parseError_6 : decode cX5_parseError 6 = .ok (.getfield 129, 3) := by decide +kernel
theorem dX5_parseError_9 : decode cX5_parseError 9 = .ok (.ireturn, 1) := by decide +kernel
theorem dX5_parseErrorPosition_0 : decode cX5_parseErrorPosition 0 = .ok (.aload_n 0, 1) := by decide +kernel
theorem dX5_parseErrorPosition_1 : decode cX5_parseErrorPosition 1 = .ok (.iconst 0, 1) := by decide +kernel
theorem dX5_parseErrorPosition_2 : decode cX5_parseErrorPosition 2 = .ok (.putfield 27, 3) := by decide +kernel
theorem dX5_parseErrorPosition_5 : decode cX5_parseErrorPosition 5 = .ok (.aload_n 0, 1) := by decide +kernel
theorem dX5_parseErrorPosition_6 : decode cX5_parseErrorPosition 6 = .ok (.getfield 20, 3) := by decide +kernel
theorem dX5_parseErrorPosition_9 : decode cX5_parseErrorPosition 9 = .ok (.ireturn, 1) := by decide +kernel
theorem dX5_noPassenger_0 : decode cX5_noPassenger 0 = .ok (.aload_n 0, 1) := by decide +kernel
theorem dX5_noPassenger_1 : decode cX5_noPassenger 1 = .ok (.iload_n 1, 1) := by decide +kernel
theorem dX5_noPassenger_2 : decode cX5_noPassenger 2 = .ok (.iconst 0, 1) := by decide +kernel
theorem dX5_noPassenger_3 : decode cX5_noPassenger 3 = .ok (.aload_n 0, 1) := by decide +kernel
theorem dX5_noPassenger_4 : decode cX5_noPassenger 4 = .ok (.getfield 7, 3) := by decide +kernel
theorem dX5_noPassenger_7 : decode cX5_noPassenger 7 = .ok (.bipush 10, 2) := by decide +kernel
theorem dX5_noPassenger_9 : decode cX5_noPassenger 9 = .ok (.iaload, 1) := by decide +kernel
theorem dX5_noPassenger_10 : decode cX5_noPassenger 10 = .ok (.iconst 1, 1) := by decide +kernel
theorem dX5_noPassenger_11 : decode cX5_noPassenger 11 = .ok (.isub, 1) := by decide +kernel
theorem dX5_noPassenger_12 : decode cX5_noPassenger 12 = .ok (.invokestatic 63, 3) := by decide +kernel
theorem dX5_noPassenger_15 : decode cX5_noPassenger 15 = .ok (.ifCond .ne 7, 3) := by decide +kernel
theorem dX5_noPassenger_18 : decode cX5_noPassenger 18 = .ok (.iconst 1, 1) := by decide +kernel
theorem dX5_noPassenger_19 : decode cX5_noPassenger 19 = .ok (.goto 4, 3) := by decide +kernel
theorem dX5_noPassenger_22 : decode cX5_noPassenger 22 = .ok (.iconst 0, 1) := by decide +kernel
theorem dX5_noPassenger_23 : decode cX5_noPassenger 23 = .ok (.iconst 1, 1) := by decide +kernel
theorem dX5_noPassenger_24 : decode cX5_noPassenger 24 = .ok (.invokevirtual 270, 3) := by decide +kernel
theorem dX5_noPassenger_27 : decode cX5_noPassenger 27 = .ok (.ireturn, 1) := by decide +kernel
theorem dX5_noFloor_0 : decode cX5_noFloor 0 = .ok (.aload_n 0, 1) := by decide +kernel
theorem dX5_noFloor_1 : decode cX5_noFloor 1 = .ok (.iload_n 1, 1) := by decide +kernel
theorem dX5_noFloor_2 : decode cX5_noFloor 2 = .ok (.iconst 0, 1) := by decide +kernel
theorem dX5_noFloor_3 : decode cX5_noFloor 3 = .ok (.aload_n 0, 1) := by decide +kernel
theorem dX5_noFloor_4 : decode cX5_noFloor 4 = .ok (.getfield 7, 3) := by decide +kernel
theorem dX5_noFloor_7 : decode cX5_noFloor 7 = .ok (.iconst 0, 1) := by decide +kernel
theorem dX5_noFloor_8 : decode cX5_noFloor 8 = .ok (.iaload, 1) := by decide +kernel
theorem dX5_noFloor_9 : decode cX5_noFloor 9 = .ok (.iconst 1, 1) := by decide +kernel
theorem dX5_noFloor_10 : decode cX5_noFloor 10 = .ok (.isub, 1) := by decide +kernel
theorem dX5_noFloor_11 : decode cX5_noFloor 11 = .ok (.invokestatic 63, 3) := by decide +kernel
theorem dX5_noFloor_14 : decode cX5_noFloor 14 = .ok (.ifCond .ne 7, 3) := by decide +kernel
theorem dX5_noFloor_17 : decode cX5_noFloor 17 = .ok (.iconst 1, 1) := by decide +kernel
theorem dX5_noFloor_18 : decode cX5_noFloor 18 = .ok (.goto 4, 3) := by decide +kernel
theorem dX5_noFloor_21 : decode cX5_noFloor 21 = .ok (.iconst 0, 1) := by decide +kernel
theorem dX5_noFloor_22 : decode cX5_noFloor 22 = .ok (.iconst 1, 1) := by decide +kernel
theorem dX5_noFloor_23 : decode cX5_noFloor 23 = .ok (.invokevirtual 270, 3) := by decide +kernel
theorem dX5_noFloor_26 : decode cX5_noFloor 26 = .ok (.ireturn, 1) := by decide +kernel
theorem dX5_noPolicy_0 : decode cX5_noPolicy 0 = .ok (.aload_n 0, 1) := by decide +kernel
theorem dX5_noPolicy_1 : decode cX5_noPolicy 1 = .ok (.iload_n 1, 1) := by decide +kernel
theorem dX5_noPolicy_2 : decode cX5_noPolicy 2 = .ok (.iconst 0, 1) := by decide +kernel
theorem dX5_noPolicy_3 : decode cX5_noPolicy 3 = .ok (.iconst 2, 1) := by decide +kernel
theorem dX5_noPolicy_4 : decode cX5_noPolicy 4 = .ok (.invokestatic 63, 3) := by decide +kernel
theorem dX5_noPolicy_7 : decode cX5_noPolicy 7 = .ok (.ifCond .ne 7, 3) := by decide +kernel
theorem dX5_noPolicy_10 : decode cX5_noPolicy 10 = .ok (.iconst 1, 1) := by decide +kernel
theorem dX5_noPolicy_11 : decode cX5_noPolicy 11 = .ok (.goto 4, 3) := by decide +kernel
theorem dX5_noPolicy_14 : decode cX5_noPolicy 14 = .ok (.iconst 0, 1) := by decide +kernel
theorem dX5_noPolicy_15 : decode cX5_noPolicy 15 = .ok (.iconst 1, 1) := by decide +kernel
theorem dX5_noPolicy_16 : decode cX5_noPolicy 16 = .ok (.invokevirtual 270, 3) := by decide +kernel
theorem dX5_noPolicy_19 : decode cX5_noPolicy 19 = .ok (.ireturn, 1) := by decide +kernel
theorem dX5_floorCount_0 : decode cX5_floorCount 0 = .ok (.aload_n 0, 1) := by decide +kernel
theorem dX5_floorCount_1 : decode cX5_floorCount 1 = .ok (.iconst 0, 1) := by decide +kernel
theorem dX5_floorCount_2 : decode cX5_floorCount 2 = .ok (.putfield 27, 3) := by decide +kernel
theorem dX5_floorCount_5 : decode cX5_floorCount 5 = .ok (.aload_n 0, 1) := by decide +kernel
theorem dX5_floorCount_6 : decode cX5_floorCount 6 = .ok (.getfield 7, 3) := by decide +kernel
theorem dX5_floorCount_9 : decode cX5_floorCount 9 = .ok (.iconst 0, 1) := by decide +kernel
theorem dX5_floorCount_10 : decode cX5_floorCount 10 = .ok (.iaload, 1) := by decide +kernel
theorem dX5_floorCount_11 : decode cX5_floorCount 11 = .ok (.ireturn, 1) := by decide +kernel
theorem dX5_capacity_0 : decode cX5_capacity 0 = .ok (.aload_n 0, 1) := by decide +kernel
theorem dX5_capacity_1 : decode cX5_capacity 1 = .ok (.iconst 0, 1) := by decide +kernel
theorem dX5_capacity_2 : decode cX5_capacity 2 = .ok (.putfield 27, 3) := by decide +kernel
theorem dX5_capacity_5 : decode cX5_capacity 5 = .ok (.aload_n 0, 1) := by decide +kernel
theorem dX5_capacity_6 : decode cX5_capacity 6 = .ok (.getfield 7, 3) := by decide +kernel
theorem dX5_capacity_9 : decode cX5_capacity 9 = .ok (.iconst 1, 1) := by decide +kernel
theorem dX5_capacity_10 : decode cX5_capacity 10 = .ok (.iaload, 1) := by decide +kernel
theorem dX5_capacity_11 : decode cX5_capacity 11 = .ok (.ireturn, 1) := by decide +kernel
theorem dX5_policy_0 : decode cX5_policy 0 = .ok (.aload_n 0, 1) := by decide +kernel
theorem dX5_policy_1 : decode cX5_policy 1 = .ok (.iconst 0, 1) := by decide +kernel
theorem dX5_policy_2 : decode cX5_policy 2 = .ok (.putfield 27, 3) := by decide +kernel
theorem dX5_policy_5 : decode cX5_policy 5 = .ok (.aload_n 0, 1) := by decide +kernel
theorem dX5_policy_6 : decode cX5_policy 6 = .ok (.getfield 7, 3) := by decide +kernel
theorem dX5_policy_9 : decode cX5_policy 9 = .ok (.iconst 2, 1) := by decide +kernel
theorem dX5_policy_10 : decode cX5_policy 10 = .ok (.iaload, 1) := by decide +kernel
theorem dX5_policy_11 : decode cX5_policy 11 = .ok (.ireturn, 1) := by decide +kernel
theorem dX5_time_0 : decode cX5_time 0 = .ok (.aload_n 0, 1) := by decide +kernel
theorem dX5_time_1 : decode cX5_time 1 = .ok (.iconst 0, 1) := by decide +kernel
theorem dX5_time_2 : decode cX5_time 2 = .ok (.putfield 27, 3) := by decide +kernel
theorem dX5_time_5 : decode cX5_time 5 = .ok (.aload_n 0, 1) := by decide +kernel
theorem dX5_time_6 : decode cX5_time 6 = .ok (.getfield 7, 3) := by decide +kernel
theorem dX5_time_9 : decode cX5_time 9 = .ok (.iconst 3, 1) := by decide +kernel
theorem dX5_time_10 : decode cX5_time 10 = .ok (.iaload, 1) := by decide +kernel
theorem dX5_time_11 : decode cX5_time 11 = .ok (.ireturn, 1) := by decide +kernel
theorem dX5_floor_0 : decode cX5_floor 0 = .ok (.aload_n 0, 1) := by decide +kernel
theorem dX5_floor_1 : decode cX5_floor 1 = .ok (.iconst 0, 1) := by decide +kernel
theorem dX5_floor_2 : decode cX5_floor 2 = .ok (.putfield 27, 3) := by decide +kernel
theorem dX5_floor_5 : decode cX5_floor 5 = .ok (.aload_n 0, 1) := by decide +kernel
theorem dX5_floor_6 : decode cX5_floor 6 = .ok (.getfield 7, 3) := by decide +kernel
theorem dX5_floor_9 : decode cX5_floor 9 = .ok (.iconst 4, 1) := by decide +kernel
theorem dX5_floor_10 : decode cX5_floor 10 = .ok (.iaload, 1) := by decide +kernel
theorem dX5_floor_11 : decode cX5_floor 11 = .ok (.ireturn, 1) := by decide +kernel
theorem dX5_isUpward_0 : decode cX5_isUpward 0 = .ok (.aload_n 0, 1) := by decide +kernel
theorem dX5_isUpward_1 : decode cX5_isUpward 1 = .ok (.iconst 0, 1) := by decide +kernel
theorem dX5_isUpward_2 : decode cX5_isUpward 2 = .ok (.putfield 27, 3) := by decide +kernel
theorem dX5_isUpward_5 : decode cX5_isUpward 5 = .ok (.aload_n 0, 1) := by decide +kernel
theorem dX5_isUpward_6 : decode cX5_isUpward 6 = .ok (.getfield 7, 3) := by decide +kernel
theorem dX5_isUpward_9 : decode cX5_isUpward 9 = .ok (.iconst 5, 1) := by decide +kernel
theorem dX5_isUpward_10 : decode cX5_isUpward 10 = .ok (.iaload, 1) := by decide +kernel
theorem dX5_isUpward_11 : decode cX5_isUpward 11 = .ok (.iconst 1, 1) := by decide +kernel
theorem dX5_isUpward_12 : decode cX5_isUpward 12 = .ok (.if_icmp .ne 7, 3) := by decide +kernel
theorem dX5_isUpward_15 : decode cX5_isUpward 15 = .ok (.iconst 1, 1) := by decide +kernel
theorem dX5_isUpward_16 : decode cX5_isUpward 16 = .ok (.goto 4, 3) := by decide +kernel
theorem dX5_isUpward_19 : decode cX5_isUpward 19 = .ok (.iconst 0, 1) := by decide +kernel
theorem dX5_isUpward_20 : decode cX5_isUpward 20 = .ok (.ireturn, 1) := by decide +kernel
theorem dX5_isFull_0 : decode cX5_isFull 0 = .ok (.aload_n 0, 1) := by decide +kernel
theorem dX5_isFull_1 : decode cX5_isFull 1 = .ok (.iconst 0, 1) := by decide +kernel
theorem dX5_isFull_2 : decode cX5_isFull 2 = .ok (.putfield 27, 3) := by decide +kernel
theorem dX5_isFull_5 : decode cX5_isFull 5 = .ok (.aload_n 0, 1) := by decide +kernel
theorem dX5_isFull_6 : decode cX5_isFull 6 = .ok (.invokevirtual 56, 3) := by decide +kernel
theorem dX5_isFull_9 : decode cX5_isFull 9 = .ok (.ireturn, 1) := by decide +kernel
theorem dX5_stopMask_0 : decode cX5_stopMask 0 = .ok (.aload_n 0, 1) := by decide +kernel
theorem dX5_stopMask_1 : decode cX5_stopMask 1 = .ok (.iconst 0, 1) := by decide +kernel
theorem dX5_stopMask_2 : decode cX5_stopMask 2 = .ok (.putfield 27, 3) := by decide +kernel
theorem dX5_stopMask_5 : decode cX5_stopMask 5 = .ok (.aload_n 0, 1) := by decide +kernel
theorem dX5_stopMask_6 : decode cX5_stopMask 6 = .ok (.invokevirtual 77, 3) := by decide +kernel
theorem dX5_stopMask_9 : decode cX5_stopMask 9 = .ok (.ireturn, 1) := by decide +kernel
theorem dX5_targetBy_0 : decode cX5_targetBy 0 = .ok (.aload_n 0, 1) := by decide +kernel
theorem dX5_targetBy_1 : decode cX5_targetBy 1 = .ok (.iconst 0, 1) := by decide +kernel
theorem dX5_targetBy_2 : decode cX5_targetBy 2 = .ok (.putfield 27, 3) := by decide +kernel
theorem dX5_targetBy_5 : decode cX5_targetBy 5 = .ok (.aload_n 0, 1) := by decide +kernel
theorem dX5_targetBy_6 : decode cX5_targetBy 6 = .ok (.iload_n 1, 1) := by decide +kernel
theorem dX5_targetBy_7 : decode cX5_targetBy 7 = .ok (.invokevirtual 274, 3) := by decide +kernel
theorem dX5_targetBy_10 : decode cX5_targetBy 10 = .ok (.ifCond .eq 7, 3) := by decide +kernel
theorem dX5_targetBy_13 : decode cX5_targetBy 13 = .ok (.iconst 0, 1) := by decide +kernel
theorem dX5_targetBy_14 : decode cX5_targetBy 14 = .ok (.goto 8, 3) := by decide +kernel
theorem dX5_targetBy_17 : decode cX5_targetBy 17 = .ok (.aload_n 0, 1) := by decide +kernel
theorem dX5_targetBy_18 : decode cX5_targetBy 18 = .ok (.iload_n 1, 1) := by decide +kernel
theorem dX5_targetBy_19 : decode cX5_targetBy 19 = .ok (.invokevirtual 91, 3) := by decide +kernel
theorem dX5_targetBy_22 : decode cX5_targetBy 22 = .ok (.ireturn, 1) := by decide +kernel
theorem dX5_distance_0 : decode cX5_distance 0 = .ok (.aload_n 0, 1) := by decide +kernel
theorem dX5_distance_1 : decode cX5_distance 1 = .ok (.iconst 0, 1) := by decide +kernel
theorem dX5_distance_2 : decode cX5_distance 2 = .ok (.putfield 27, 3) := by decide +kernel
theorem dX5_distance_5 : decode cX5_distance 5 = .ok (.aload_n 0, 1) := by decide +kernel
theorem dX5_distance_6 : decode cX5_distance 6 = .ok (.getfield 7, 3) := by decide +kernel
theorem dX5_distance_9 : decode cX5_distance 9 = .ok (.bipush 6, 2) := by decide +kernel
theorem dX5_distance_11 : decode cX5_distance 11 = .ok (.iaload, 1) := by decide +kernel
theorem dX5_distance_12 : decode cX5_distance 12 = .ok (.ireturn, 1) := by decide +kernel
theorem dX5_doorTicks_0 : decode cX5_doorTicks 0 = .ok (.aload_n 0, 1) := by decide +kernel
theorem dX5_doorTicks_1 : decode cX5_doorTicks 1 = .ok (.iconst 0, 1) := by decide +kernel
theorem dX5_doorTicks_2 : decode cX5_doorTicks 2 = .ok (.putfield 27, 3) := by decide +kernel
theorem dX5_doorTicks_5 : decode cX5_doorTicks 5 = .ok (.aload_n 0, 1) := by decide +kernel
theorem dX5_doorTicks_6 : decode cX5_doorTicks 6 = .ok (.getfield 7, 3) := by decide +kernel
theorem dX5_doorTicks_9 : decode cX5_doorTicks 9 = .ok (.bipush 7, 2) := by decide +kernel
theorem dX5_doorTicks_11 : decode cX5_doorTicks 11 = .ok (.iaload, 1) := by decide +kernel
theorem dX5_doorTicks_12 : decode cX5_doorTicks 12 = .ok (.ireturn, 1) := by decide +kernel
theorem dX5_idleTicks_0 : decode cX5_idleTicks 0 = .ok (.aload_n 0, 1) := by decide +kernel
theorem dX5_idleTicks_1 : decode cX5_idleTicks 1 = .ok (.iconst 0, 1) := by decide +kernel
theorem dX5_idleTicks_2 : decode cX5_idleTicks 2 = .ok (.putfield 27, 3) := by decide +kernel
theorem dX5_idleTicks_5 : decode cX5_idleTicks 5 = .ok (.aload_n 0, 1) := by decide +kernel
theorem dX5_idleTicks_6 : decode cX5_idleTicks 6 = .ok (.getfield 7, 3) := by decide +kernel
theorem dX5_idleTicks_9 : decode cX5_idleTicks 9 = .ok (.bipush 8, 2) := by decide +kernel
theorem dX5_idleTicks_11 : decode cX5_idleTicks 11 = .ok (.iaload, 1) := by decide +kernel
theorem dX5_idleTicks_12 : decode cX5_idleTicks 12 = .ok (.ireturn, 1) := by decide +kernel
theorem dX5_reversals_0 : decode cX5_reversals 0 = .ok (.aload_n 0, 1) := by decide +kernel
theorem dX5_reversals_1 : decode cX5_reversals 1 = .ok (.iconst 0, 1) := by decide +kernel
theorem dX5_reversals_2 : decode cX5_reversals 2 = .ok (.putfield 27, 3) := by decide +kernel
theorem dX5_reversals_5 : decode cX5_reversals 5 = .ok (.aload_n 0, 1) := by decide +kernel
theorem dX5_reversals_6 : decode cX5_reversals 6 = .ok (.getfield 7, 3) := by decide +kernel
theorem dX5_reversals_9 : decode cX5_reversals 9 = .ok (.bipush 9, 2) := by decide +kernel
theorem dX5_reversals_11 : decode cX5_reversals 11 = .ok (.iaload, 1) := by decide +kernel
theorem dX5_reversals_12 : decode cX5_reversals 12 = .ok (.ireturn, 1) := by decide +kernel
theorem dX5_passengerCount_0 : decode cX5_passengerCount 0 = .ok (.aload_n 0, 1) := by decide +kernel
theorem dX5_passengerCount_1 : decode cX5_passengerCount 1 = .ok (.iconst 0, 1) := by decide +kernel
theorem dX5_passengerCount_2 : decode cX5_passengerCount 2 = .ok (.putfield 27, 3) := by decide +kernel
theorem dX5_passengerCount_5 : decode cX5_passengerCount 5 = .ok (.aload_n 0, 1) := by decide +kernel
theorem dX5_passengerCount_6 : decode cX5_passengerCount 6 = .ok (.getfield 7, 3) := by decide +kernel
theorem dX5_passengerCount_9 : decode cX5_passengerCount 9 = .ok (.bipush 10, 2) := by decide +kernel
theorem dX5_passengerCount_11 : decode cX5_passengerCount 11 = .ok (.iaload, 1) := by decide +kernel
theorem dX5_passengerCount_12 : decode cX5_passengerCount 12 = .ok (.ireturn, 1) := by decide +kernel
theorem dX5_statusOf_0 : decode cX5_statusOf 0 = .ok (.aload_n 0, 1) := by decide +kernel
theorem dX5_statusOf_1 : decode cX5_statusOf 1 = .ok (.iconst 0, 1) := by decide +kernel
theorem dX5_statusOf_2 : decode cX5_statusOf 2 = .ok (.putfield 27, 3) := by decide +kernel
theorem dX5_statusOf_5 : decode cX5_statusOf 5 = .ok (.aload_n 0, 1) := by decide +kernel
theorem dX5_statusOf_6 : decode cX5_statusOf 6 = .ok (.iload_n 1, 1) := by decide +kernel
theorem dX5_statusOf_7 : decode cX5_statusOf 7 = .ok (.invokevirtual 277, 3) := by decide +kernel
theorem dX5_statusOf_10 : decode cX5_statusOf 10 = .ok (.ifCond .eq 7, 3) := by decide +kernel
theorem dX5_statusOf_13 : decode cX5_statusOf 13 = .ok (.iconst 0, 1) := by decide +kernel
theorem dX5_statusOf_14 : decode cX5_statusOf 14 = .ok (.goto 8, 3) := by decide +kernel
theorem dX5_statusOf_17 : decode cX5_statusOf 17 = .ok (.aload_n 0, 1) := by decide +kernel
theorem dX5_statusOf_18 : decode cX5_statusOf 18 = .ok (.iload_n 1, 1) := by decide +kernel
theorem dX5_statusOf_19 : decode cX5_statusOf 19 = .ok (.invokevirtual 43, 3) := by decide +kernel
theorem dX5_statusOf_22 : decode cX5_statusOf 22 = .ok (.ireturn, 1) := by decide +kernel
theorem dX5_originOf_0 : decode cX5_originOf 0 = .ok (.aload_n 0, 1) := by decide +kernel
theorem dX5_originOf_1 : decode cX5_originOf 1 = .ok (.iconst 0, 1) := by decide +kernel
theorem dX5_originOf_2 : decode cX5_originOf 2 = .ok (.putfield 27, 3) := by decide +kernel
theorem dX5_originOf_5 : decode cX5_originOf 5 = .ok (.aload_n 0, 1) := by decide +kernel
theorem dX5_originOf_6 : decode cX5_originOf 6 = .ok (.iload_n 1, 1) := by decide +kernel
theorem dX5_originOf_7 : decode cX5_originOf 7 = .ok (.invokevirtual 277, 3) := by decide +kernel
theorem dX5_originOf_10 : decode cX5_originOf 10 = .ok (.ifCond .eq 7, 3) := by decide +kernel
theorem dX5_originOf_13 : decode cX5_originOf 13 = .ok (.iconst 0, 1) := by decide +kernel
theorem dX5_originOf_14 : decode cX5_originOf 14 = .ok (.goto 8, 3) := by decide +kernel
theorem dX5_originOf_17 : decode cX5_originOf 17 = .ok (.aload_n 0, 1) := by decide +kernel
theorem dX5_originOf_18 : decode cX5_originOf 18 = .ok (.iload_n 1, 1) := by decide +kernel
theorem dX5_originOf_19 : decode cX5_originOf 19 = .ok (.invokevirtual 49, 3) := by decide +kernel
theorem dX5_originOf_22 : decode cX5_originOf 22 = .ok (.ireturn, 1) := by decide +kernel
theorem dX5_destinationOf_0 : decode cX5_destinationOf 0 = .ok (.aload_n 0, 1) := by decide +kernel
theorem dX5_destinationOf_1 : decode cX5_destinationOf 1 = .ok (.iconst 0, 1) := by decide +kernel
theorem dX5_destinationOf_2 : decode cX5_destinationOf 2 = .ok (.putfield 27, 3) := by decide +kernel
theorem dX5_destinationOf_5 : decode cX5_destinationOf 5 = .ok (.aload_n 0, 1) := by decide +kernel
theorem dX5_destinationOf_6 : decode cX5_destinationOf 6 = .ok (.iload_n 1, 1) := by decide +kernel
theorem dX5_destinationOf_7 : decode cX5_destinationOf 7 = .ok (.invokevirtual 277, 3) := by decide +kernel
theorem dX5_destinationOf_10 : decode cX5_destinationOf 10 = .ok (.ifCond .eq 7, 3) := by decide +kernel
theorem dX5_destinationOf_13 : decode cX5_destinationOf 13 = .ok (.iconst 0, 1) := by decide +kernel
theorem dX5_destinationOf_14 : decode cX5_destinationOf 14 = .ok (.goto 8, 3) := by decide +kernel
theorem dX5_destinationOf_17 : decode cX5_destinationOf 17 = .ok (.aload_n 0, 1) := by decide +kernel
theorem dX5_destinationOf_18 : decode cX5_destinationOf 18 = .ok (.iload_n 1, 1) := by decide +kernel
theorem dX5_destinationOf_19 : decode cX5_destinationOf 19 = .ok (.invokevirtual 60, 3) := by decide +kernel
theorem dX5_destinationOf_22 : decode cX5_destinationOf 22 = .ok (.ireturn, 1) := by decide +kernel
theorem dX5_arrivalOf_0 : decode cX5_arrivalOf 0 = .ok (.aload_n 0, 1) := by decide +kernel
theorem dX5_arrivalOf_1 : decode cX5_arrivalOf 1 = .ok (.iconst 0, 1) := by decide +kernel
theorem dX5_arrivalOf_2 : decode cX5_arrivalOf 2 = .ok (.putfield 27, 3) := by decide +kernel
theorem dX5_arrivalOf_5 : decode cX5_arrivalOf 5 = .ok (.aload_n 0, 1) := by decide +kernel
theorem dX5_arrivalOf_6 : decode cX5_arrivalOf 6 = .ok (.iload_n 1, 1) := by decide +kernel
theorem dX5_arrivalOf_7 : decode cX5_arrivalOf 7 = .ok (.invokevirtual 277, 3) := by decide +kernel
theorem dX5_arrivalOf_10 : decode cX5_arrivalOf 10 = .ok (.ifCond .eq 7, 3) := by decide +kernel
theorem dX5_arrivalOf_13 : decode cX5_arrivalOf 13 = .ok (.iconst 0, 1) := by decide +kernel
theorem dX5_arrivalOf_14 : decode cX5_arrivalOf 14 = .ok (.goto 8, 3) := by decide +kernel
theorem dX5_arrivalOf_17 : decode cX5_arrivalOf 17 = .ok (.aload_n 0, 1) := by decide +kernel
theorem dX5_arrivalOf_18 : decode cX5_arrivalOf 18 = .ok (.iload_n 1, 1) := by decide +kernel
theorem dX5_arrivalOf_19 : decode cX5_arrivalOf 19 = .ok (.invokevirtual 40, 3) := by decide +kernel
theorem dX5_arrivalOf_22 : decode cX5_arrivalOf 22 = .ok (.ireturn, 1) := by decide +kernel
theorem dX5_boardedAt_0 : decode cX5_boardedAt 0 = .ok (.aload_n 0, 1) := by decide +kernel
theorem dX5_boardedAt_1 : decode cX5_boardedAt 1 = .ok (.iconst 0, 1) := by decide +kernel
theorem dX5_boardedAt_2 : decode cX5_boardedAt 2 = .ok (.putfield 27, 3) := by decide +kernel
theorem dX5_boardedAt_5 : decode cX5_boardedAt 5 = .ok (.aload_n 0, 1) := by decide +kernel
theorem dX5_boardedAt_6 : decode cX5_boardedAt 6 = .ok (.iload_n 1, 1) := by decide +kernel
theorem dX5_boardedAt_7 : decode cX5_boardedAt 7 = .ok (.invokevirtual 277, 3) := by decide +kernel
theorem dX5_boardedAt_10 : decode cX5_boardedAt 10 = .ok (.ifCond .eq 7, 3) := by decide +kernel
theorem dX5_boardedAt_13 : decode cX5_boardedAt 13 = .ok (.iconst 0, 1) := by decide +kernel
theorem dX5_boardedAt_14 : decode cX5_boardedAt 14 = .ok (.goto 8, 3) := by decide +kernel
theorem dX5_boardedAt_17 : decode cX5_boardedAt 17 = .ok (.aload_n 0, 1) := by decide +kernel
theorem dX5_boardedAt_18 : decode cX5_boardedAt 18 = .ok (.iload_n 1, 1) := by decide +kernel
theorem dX5_boardedAt_19 : decode cX5_boardedAt 19 = .ok (.invokevirtual 37, 3) := by decide +kernel
theorem dX5_boardedAt_22 : decode cX5_boardedAt 22 = .ok (.ireturn, 1) := by decide +kernel
theorem dX5_leftAt_0 : decode cX5_leftAt 0 = .ok (.aload_n 0, 1) := by decide +kernel
theorem dX5_leftAt_1 : decode cX5_leftAt 1 = .ok (.iconst 0, 1) := by decide +kernel
theorem dX5_leftAt_2 : decode cX5_leftAt 2 = .ok (.putfield 27, 3) := by decide +kernel
theorem dX5_leftAt_5 : decode cX5_leftAt 5 = .ok (.aload_n 0, 1) := by decide +kernel
theorem dX5_leftAt_6 : decode cX5_leftAt 6 = .ok (.iload_n 1, 1) := by decide +kernel
theorem dX5_leftAt_7 : decode cX5_leftAt 7 = .ok (.invokevirtual 277, 3) := by decide +kernel
theorem dX5_leftAt_10 : decode cX5_leftAt 10 = .ok (.ifCond .eq 7, 3) := by decide +kernel
theorem dX5_leftAt_13 : decode cX5_leftAt 13 = .ok (.iconst 0, 1) := by decide +kernel
theorem dX5_leftAt_14 : decode cX5_leftAt 14 = .ok (.goto 8, 3) := by decide +kernel
theorem dX5_leftAt_17 : decode cX5_leftAt 17 = .ok (.aload_n 0, 1) := by decide +kernel
theorem dX5_leftAt_18 : decode cX5_leftAt 18 = .ok (.iload_n 1, 1) := by decide +kernel
theorem dX5_leftAt_19 : decode cX5_leftAt 19 = .ok (.invokevirtual 34, 3) := by decide +kernel
theorem dX5_leftAt_22 : decode cX5_leftAt 22 = .ok (.ireturn, 1) := by decide +kernel
theorem dX5_waited_0 : decode cX5_waited 0 = .ok (.aload_n 0, 1) := by decide +kernel
theorem dX5_waited_1 : decode cX5_waited 1 = .ok (.iload_n 1, 1) := by decide +kernel
theorem dX5_waited_2 : decode cX5_waited 2 = .ok (.invokevirtual 37, 3) := by decide +kernel
theorem dX5_waited_5 : decode cX5_waited 5 = .ok (.iconst (-1), 1) := by decide +kernel
theorem dX5_waited_6 : decode cX5_waited 6 = .ok (.if_icmp .ne 7, 3) := by decide +kernel
theorem dX5_waited_9 : decode cX5_waited 9 = .ok (.iconst (-1), 1) := by decide +kernel
theorem dX5_waited_10 : decode cX5_waited 10 = .ok (.goto 14, 3) := by decide +kernel
theorem dX5_waited_13 : decode cX5_waited 13 = .ok (.aload_n 0, 1) := by decide +kernel
theorem dX5_waited_14 : decode cX5_waited 14 = .ok (.iload_n 1, 1) := by decide +kernel
theorem dX5_waited_15 : decode cX5_waited 15 = .ok (.invokevirtual 37, 3) := by decide +kernel
theorem dX5_waited_18 : decode cX5_waited 18 = .ok (.aload_n 0, 1) := by decide +kernel
theorem dX5_waited_19 : decode cX5_waited 19 = .ok (.iload_n 1, 1) := by decide +kernel
theorem dX5_waited_20 : decode cX5_waited 20 = .ok (.invokevirtual 40, 3) := by decide +kernel
theorem dX5_waited_23 : decode cX5_waited 23 = .ok (.isub, 1) := by decide +kernel
theorem dX5_waited_24 : decode cX5_waited 24 = .ok (.ireturn, 1) := by decide +kernel
theorem dX5_ridden_0 : decode cX5_ridden 0 = .ok (.aload_n 0, 1) := by decide +kernel
theorem dX5_ridden_1 : decode cX5_ridden 1 = .ok (.iload_n 1, 1) := by decide +kernel
theorem dX5_ridden_2 : decode cX5_ridden 2 = .ok (.invokevirtual 34, 3) := by decide +kernel
theorem dX5_ridden_5 : decode cX5_ridden 5 = .ok (.iconst (-1), 1) := by decide +kernel
theorem dX5_ridden_6 : decode cX5_ridden 6 = .ok (.if_icmp .ne 7, 3) := by decide +kernel
theorem dX5_ridden_9 : decode cX5_ridden 9 = .ok (.iconst (-1), 1) := by decide +kernel
theorem dX5_ridden_10 : decode cX5_ridden 10 = .ok (.goto 14, 3) := by decide +kernel
theorem dX5_ridden_13 : decode cX5_ridden 13 = .ok (.aload_n 0, 1) := by decide +kernel
theorem dX5_ridden_14 : decode cX5_ridden 14 = .ok (.iload_n 1, 1) := by decide +kernel
theorem dX5_ridden_15 : decode cX5_ridden 15 = .ok (.invokevirtual 34, 3) := by decide +kernel
theorem dX5_ridden_18 : decode cX5_ridden 18 = .ok (.aload_n 0, 1) := by decide +kernel
theorem dX5_ridden_19 : decode cX5_ridden 19 = .ok (.iload_n 1, 1) := by decide +kernel
theorem dX5_ridden_20 : decode cX5_ridden 20 = .ok (.invokevirtual 37, 3) := by decide +kernel
theorem dX5_ridden_23 : decode cX5_ridden 23 = .ok (.isub, 1) := by decide +kernel
theorem dX5_ridden_24 : decode cX5_ridden 24 = .ok (.ireturn, 1) := by decide +kernel
theorem dX5_waitOf_0 : decode cX5_waitOf 0 = .ok (.aload_n 0, 1) := by decide +kernel
theorem dX5_waitOf_1 : decode cX5_waitOf 1 = .ok (.iconst 0, 1) := by decide +kernel
theorem dX5_waitOf_2 : decode cX5_waitOf 2 = .ok (.putfield 27, 3) := by decide +kernel
theorem dX5_waitOf_5 : decode cX5_waitOf 5 = .ok (.aload_n 0, 1) := by decide +kernel
theorem dX5_waitOf_6 : decode cX5_waitOf 6 = .ok (.iload_n 1, 1) := by decide +kernel
theorem dX5_waitOf_7 : decode cX5_waitOf 7 = .ok (.invokevirtual 277, 3) := by decide +kernel
theorem dX5_waitOf_10 : decode cX5_waitOf 10 = .ok (.ifCond .eq 7, 3) := by decide +kernel
theorem dX5_waitOf_13 : decode cX5_waitOf 13 = .ok (.iconst 0, 1) := by decide +kernel
theorem dX5_waitOf_14 : decode cX5_waitOf 14 = .ok (.goto 8, 3) := by decide +kernel
theorem dX5_waitOf_17 : decode cX5_waitOf 17 = .ok (.aload_n 0, 1) := by decide +kernel
theorem dX5_waitOf_18 : decode cX5_waitOf 18 = .ok (.iload_n 1, 1) := by decide +kernel
theorem dX5_waitOf_19 : decode cX5_waitOf 19 = .ok (.invokevirtual 280, 3) := by decide +kernel
theorem dX5_waitOf_22 : decode cX5_waitOf 22 = .ok (.ireturn, 1) := by decide +kernel
theorem dX5_rideOf_0 : decode cX5_rideOf 0 = .ok (.aload_n 0, 1) := by decide +kernel
theorem dX5_rideOf_1 : decode cX5_rideOf 1 = .ok (.iconst 0, 1) := by decide +kernel
theorem dX5_rideOf_2 : decode cX5_rideOf 2 = .ok (.putfield 27, 3) := by decide +kernel
theorem dX5_rideOf_5 : decode cX5_rideOf 5 = .ok (.aload_n 0, 1) := by decide +kernel
theorem dX5_rideOf_6 : decode cX5_rideOf 6 = .ok (.iload_n 1, 1) := by decide +kernel
theorem dX5_rideOf_7 : decode cX5_rideOf 7 = .ok (.invokevirtual 277, 3) := by decide +kernel
theorem dX5_rideOf_10 : decode cX5_rideOf 10 = .ok (.ifCond .eq 7, 3) := by decide +kernel
theorem dX5_rideOf_13 : decode cX5_rideOf 13 = .ok (.iconst 0, 1) := by decide +kernel
theorem dX5_rideOf_14 : decode cX5_rideOf 14 = .ok (.goto 8, 3) := by decide +kernel
theorem dX5_rideOf_17 : decode cX5_rideOf 17 = .ok (.aload_n 0, 1) := by decide +kernel
theorem dX5_rideOf_18 : decode cX5_rideOf 18 = .ok (.iload_n 1, 1) := by decide +kernel
theorem dX5_rideOf_19 : decode cX5_rideOf 19 = .ok (.invokevirtual 283, 3) := by decide +kernel
theorem dX5_rideOf_22 : decode cX5_rideOf 22 = .ok (.ireturn, 1) := by decide +kernel
theorem dX5_detourOf_0 : decode cX5_detourOf 0 = .ok (.aload_n 0, 1) := by decide +kernel
theorem dX5_detourOf_1 : decode cX5_detourOf 1 = .ok (.iconst 0, 1) := by decide +kernel
theorem dX5_detourOf_2 : decode cX5_detourOf 2 = .ok (.putfield 27, 3) := by decide +kernel
theorem dX5_detourOf_5 : decode cX5_detourOf 5 = .ok (.aload_n 0, 1) := by decide +kernel
theorem dX5_detourOf_6 : decode cX5_detourOf 6 = .ok (.iload_n 1, 1) := by decide +kernel
theorem dX5_detourOf_7 : decode cX5_detourOf 7 = .ok (.invokevirtual 277, 3) := by decide +kernel
theorem dX5_detourOf_10 : decode cX5_detourOf 10 = .ok (.ifCond .eq 5, 3) := by decide +kernel
theorem dX5_detourOf_13 : decode cX5_detourOf 13 = .ok (.iconst 0, 1) := by decide +kernel
theorem dX5_detourOf_14 : decode cX5_detourOf 14 = .ok (.ireturn, 1) := by decide +kernel
theorem dX5_detourOf_15 : decode cX5_detourOf 15 = .ok (.aload_n 0, 1) := by decide +kernel
theorem dX5_detourOf_16 : decode cX5_detourOf 16 = .ok (.iload_n 1, 1) := by decide +kernel
theorem dX5_detourOf_17 : decode cX5_detourOf 17 = .ok (.invokevirtual 60, 3) := by decide +kernel
theorem dX5_detourOf_20 : decode cX5_detourOf 20 = .ok (.aload_n 0, 1) := by decide +kernel
theorem dX5_detourOf_21 : decode cX5_detourOf 21 = .ok (.iload_n 1, 1) := by decide +kernel
theorem dX5_detourOf_22 : decode cX5_detourOf 22 = .ok (.invokevirtual 49, 3) := by decide +kernel
theorem dX5_detourOf_25 : decode cX5_detourOf 25 = .ok (.isub, 1) := by decide +kernel
theorem dX5_detourOf_26 : decode cX5_detourOf 26 = .ok (.istore_n 2, 1) := by decide +kernel
theorem dX5_detourOf_27 : decode cX5_detourOf 27 = .ok (.aload_n 0, 1) := by decide +kernel
theorem dX5_detourOf_28 : decode cX5_detourOf 28 = .ok (.iload_n 1, 1) := by decide +kernel
theorem dX5_detourOf_29 : decode cX5_detourOf 29 = .ok (.invokevirtual 34, 3) := by decide +kernel
theorem dX5_detourOf_32 : decode cX5_detourOf 32 = .ok (.iconst (-1), 1) := by decide +kernel
theorem dX5_detourOf_33 : decode cX5_detourOf 33 = .ok (.if_icmp .ne 7, 3) := by decide +kernel
theorem dX5_detourOf_36 : decode cX5_detourOf 36 = .ok (.iconst (-1), 1) := by decide +kernel
theorem dX5_detourOf_37 : decode cX5_detourOf 37 = .ok (.goto 21, 3) := by decide +kernel
theorem dX5_detourOf_40 : decode cX5_detourOf 40 = .ok (.aload_n 0, 1) := by decide +kernel
theorem dX5_detourOf_41 : decode cX5_detourOf 41 = .ok (.iload_n 1, 1) := by decide +kernel
theorem dX5_detourOf_42 : decode cX5_detourOf 42 = .ok (.invokevirtual 283, 3) := by decide +kernel
theorem dX5_detourOf_45 : decode cX5_detourOf 45 = .ok (.iconst 1, 1) := by decide +kernel
theorem dX5_detourOf_46 : decode cX5_detourOf 46 = .ok (.isub, 1) := by decide +kernel
theorem dX5_detourOf_47 : decode cX5_detourOf 47 = .ok (.iload_n 2, 1) := by decide +kernel
theorem dX5_detourOf_48 : decode cX5_detourOf 48 = .ok (.ifCond .ge 8, 3) := by decide +kernel
theorem dX5_detourOf_51 : decode cX5_detourOf 51 = .ok (.iload_n 2, 1) := by decide +kernel
theorem dX5_detourOf_52 : decode cX5_detourOf 52 = .ok (.ineg, 1) := by decide +kernel
theorem dX5_detourOf_53 : decode cX5_detourOf 53 = .ok (.goto 4, 3) := by decide +kernel
theorem dX5_detourOf_56 : decode cX5_detourOf 56 = .ok (.iload_n 2, 1) := by decide +kernel
theorem dX5_detourOf_57 : decode cX5_detourOf 57 = .ok (.isub, 1) := by decide +kernel
theorem dX5_detourOf_58 : decode cX5_detourOf 58 = .ok (.ireturn, 1) := by decide +kernel
theorem dX5_countStatus_0 : decode cX5_countStatus 0 = .ok (.aload_n 0, 1) := by decide +kernel
theorem dX5_countStatus_1 : decode cX5_countStatus 1 = .ok (.iconst 0, 1) := by decide +kernel
theorem dX5_countStatus_2 : decode cX5_countStatus 2 = .ok (.putfield 27, 3) := by decide +kernel
theorem dX5_countStatus_5 : decode cX5_countStatus 5 = .ok (.aload_n 0, 1) := by decide +kernel
theorem dX5_countStatus_6 : decode cX5_countStatus 6 = .ok (.iload_n 1, 1) := by decide +kernel
theorem dX5_countStatus_7 : decode cX5_countStatus 7 = .ok (.iconst 0, 1) := by decide +kernel
theorem dX5_countStatus_8 : decode cX5_countStatus 8 = .ok (.iconst 3, 1) := by decide +kernel
theorem dX5_countStatus_9 : decode cX5_countStatus 9 = .ok (.invokestatic 63, 3) := by decide +kernel
theorem dX5_countStatus_12 : decode cX5_countStatus 12 = .ok (.ifCond .ne 7, 3) := by decide +kernel
theorem dX5_countStatus_15 : decode cX5_countStatus 15 = .ok (.iconst 1, 1) := by decide +kernel
theorem dX5_countStatus_16 : decode cX5_countStatus 16 = .ok (.goto 4, 3) := by decide +kernel
theorem dX5_countStatus_19 : decode cX5_countStatus 19 = .ok (.iconst 0, 1) := by decide +kernel
theorem dX5_countStatus_20 : decode cX5_countStatus 20 = .ok (.iconst 1, 1) := by decide +kernel
theorem dX5_countStatus_21 : decode cX5_countStatus 21 = .ok (.invokevirtual 270, 3) := by decide +kernel
theorem dX5_countStatus_24 : decode cX5_countStatus 24 = .ok (.ifCond .eq 7, 3) := by decide +kernel
theorem dX5_countStatus_27 : decode cX5_countStatus 27 = .ok (.iconst 0, 1) := by decide +kernel
theorem dX5_countStatus_28 : decode cX5_countStatus 28 = .ok (.goto 8, 3) := by decide +kernel
theorem dX5_countStatus_31 : decode cX5_countStatus 31 = .ok (.aload_n 0, 1) := by decide +kernel
theorem dX5_countStatus_32 : decode cX5_countStatus 32 = .ok (.iload_n 1, 1) := by decide +kernel
theorem dX5_countStatus_33 : decode cX5_countStatus 33 = .ok (.invokevirtual 46, 3) := by decide +kernel
theorem dX5_countStatus_36 : decode cX5_countStatus 36 = .ok (.ireturn, 1) := by decide +kernel
theorem dX5_waiting_0 : decode cX5_waiting 0 = .ok (.iconst 0, 1) := by decide +kernel
theorem dX5_waiting_1 : decode cX5_waiting 1 = .ok (.istore_n 2, 1) := by decide +kernel
theorem dX5_waiting_2 : decode cX5_waiting 2 = .ok (.iconst 0, 1) := by decide +kernel
theorem dX5_waiting_3 : decode cX5_waiting 3 = .ok (.istore_n 3, 1) := by decide +kernel
theorem dX5_waiting_4 : decode cX5_waiting 4 = .ok (.iload_n 3, 1) := by decide +kernel
theorem dX5_waiting_5 : decode cX5_waiting 5 = .ok (.aload_n 0, 1) := by decide +kernel
theorem dX5_waiting_6 : decode cX5_waiting 6 = .ok (.getfield 7, 3) := by decide +kernel
theorem dX5_waiting_9 : decode cX5_waiting 9 = .ok (.bipush 10, 2) := by decide +kernel
theorem dX5_waiting_11 : decode cX5_waiting 11 = .ok (.iaload, 1) := by decide +kernel
theorem dX5_waiting_12 : decode cX5_waiting 12 = .ok (.if_icmp .ge 35, 3) := by decide +kernel
theorem dX5_waiting_15 : decode cX5_waiting 15 = .ok (.iload_n 2, 1) := by decide +kernel
theorem dX5_waiting_16 : decode cX5_waiting 16 = .ok (.aload_n 0, 1) := by decide +kernel
theorem dX5_waiting_17 : decode cX5_waiting 17 = .ok (.iload_n 3, 1) := by decide +kernel
theorem dX5_waiting_18 : decode cX5_waiting 18 = .ok (.invokevirtual 43, 3) := by decide +kernel
theorem dX5_waiting_21 : decode cX5_waiting 21 = .ok (.iconst 1, 1) := by decide +kernel
theorem dX5_waiting_22 : decode cX5_waiting 22 = .ok (.if_icmp .ne 16, 3) := by decide +kernel
theorem dX5_waiting_25 : decode cX5_waiting 25 = .ok (.aload_n 0, 1) := by decide +kernel
theorem dX5_waiting_26 : decode cX5_waiting 26 = .ok (.iload_n 3, 1) := by decide +kernel
theorem dX5_waiting_27 : decode cX5_waiting 27 = .ok (.invokevirtual 49, 3) := by decide +kernel
theorem dX5_waiting_30 : decode cX5_waiting 30 = .ok (.iload_n 1, 1) := by decide +kernel
theorem dX5_waiting_31 : decode cX5_waiting 31 = .ok (.if_icmp .ne 7, 3) := by decide +kernel
theorem dX5_waiting_34 : decode cX5_waiting 34 = .ok (.iconst 1, 1) := by decide +kernel
theorem dX5_waiting_35 : decode cX5_waiting 35 = .ok (.goto 4, 3) := by decide +kernel
theorem dX5_waiting_38 : decode cX5_waiting 38 = .ok (.iconst 0, 1) := by decide +kernel
theorem dX5_waiting_39 : decode cX5_waiting 39 = .ok (.iadd, 1) := by decide +kernel
theorem dX5_waiting_40 : decode cX5_waiting 40 = .ok (.istore_n 2, 1) := by decide +kernel
theorem dX5_waiting_41 : decode cX5_waiting 41 = .ok (.iinc 3 1, 3) := by decide +kernel
theorem dX5_waiting_44 : decode cX5_waiting 44 = .ok (.goto (-40), 3) := by decide +kernel
theorem dX5_waiting_47 : decode cX5_waiting 47 = .ok (.iload_n 2, 1) := by decide +kernel
theorem dX5_waiting_48 : decode cX5_waiting 48 = .ok (.ireturn, 1) := by decide +kernel
theorem dX5_waitingAt_0 : decode cX5_waitingAt 0 = .ok (.aload_n 0, 1) := by decide +kernel
theorem dX5_waitingAt_1 : decode cX5_waitingAt 1 = .ok (.iconst 0, 1) := by decide +kernel
theorem dX5_waitingAt_2 : decode cX5_waitingAt 2 = .ok (.putfield 27, 3) := by decide +kernel
theorem dX5_waitingAt_5 : decode cX5_waitingAt 5 = .ok (.aload_n 0, 1) := by decide +kernel
theorem dX5_waitingAt_6 : decode cX5_waitingAt 6 = .ok (.iload_n 1, 1) := by decide +kernel
theorem dX5_waitingAt_7 : decode cX5_waitingAt 7 = .ok (.invokevirtual 286, 3) := by decide +kernel
theorem dX5_waitingAt_10 : decode cX5_waitingAt 10 = .ok (.ifCond .eq 7, 3) := by decide +kernel
theorem dX5_waitingAt_13 : decode cX5_waitingAt 13 = .ok (.iconst 0, 1) := by decide +kernel
theorem dX5_waitingAt_14 : decode cX5_waitingAt 14 = .ok (.goto 8, 3) := by decide +kernel
theorem dX5_waitingAt_17 : decode cX5_waitingAt 17 = .ok (.aload_n 0, 1) := by decide +kernel
theorem dX5_waitingAt_18 : decode cX5_waitingAt 18 = .ok (.iload_n 1, 1) := by decide +kernel
theorem dX5_waitingAt_19 : decode cX5_waitingAt 19 = .ok (.invokevirtual 289, 3) := by decide +kernel
theorem dX5_waitingAt_22 : decode cX5_waitingAt 22 = .ok (.ireturn, 1) := by decide +kernel
theorem dX5_ahead_0 : decode cX5_ahead 0 = .ok (.iconst 0, 1) := by decide +kernel
theorem dX5_ahead_1 : decode cX5_ahead 1 = .ok (.istore_n 2, 1) := by decide +kernel
theorem dX5_ahead_2 : decode cX5_ahead 2 = .ok (.iconst 0, 1) := by decide +kernel
theorem dX5_ahead_3 : decode cX5_ahead 3 = .ok (.istore_n 3, 1) := by decide +kernel
theorem dX5_ahead_4 : decode cX5_ahead 4 = .ok (.iload_n 3, 1) := by decide +kernel
theorem dX5_ahead_5 : decode cX5_ahead 5 = .ok (.aload_n 0, 1) := by decide +kernel
theorem dX5_ahead_6 : decode cX5_ahead 6 = .ok (.getfield 7, 3) := by decide +kernel
theorem dX5_ahead_9 : decode cX5_ahead 9 = .ok (.bipush 10, 2) := by decide +kernel
theorem dX5_ahead_11 : decode cX5_ahead 11 = .ok (.iaload, 1) := by decide +kernel
theorem dX5_ahead_12 : decode cX5_ahead 12 = .ok (.if_icmp .ge 48, 3) := by decide +kernel
theorem dX5_ahead_15 : decode cX5_ahead 15 = .ok (.iload_n 2, 1) := by decide +kernel
theorem dX5_ahead_16 : decode cX5_ahead 16 = .ok (.aload_n 0, 1) := by decide +kernel
theorem dX5_ahead_17 : decode cX5_ahead 17 = .ok (.iload_n 3, 1) := by decide +kernel
theorem dX5_ahead_18 : decode cX5_ahead 18 = .ok (.invokevirtual 43, 3) := by decide +kernel
theorem dX5_ahead_21 : decode cX5_ahead 21 = .ok (.iconst 1, 1) := by decide +kernel
theorem dX5_ahead_22 : decode cX5_ahead 22 = .ok (.if_icmp .ne 29, 3) := by decide +kernel
theorem dX5_ahead_25 : decode cX5_ahead 25 = .ok (.aload_n 0, 1) := by decide +kernel
theorem dX5_ahead_26 : decode cX5_ahead 26 = .ok (.iload_n 3, 1) := by decide +kernel
theorem dX5_ahead_27 : decode cX5_ahead 27 = .ok (.invokevirtual 49, 3) := by decide +kernel
theorem dX5_ahead_30 : decode cX5_ahead 30 = .ok (.aload_n 0, 1) := by decide +kernel
theorem dX5_ahead_31 : decode cX5_ahead 31 = .ok (.iload_n 1, 1) := by decide +kernel
theorem dX5_ahead_32 : decode cX5_ahead 32 = .ok (.invokevirtual 49, 3) := by decide +kernel
theorem dX5_ahead_35 : decode cX5_ahead 35 = .ok (.if_icmp .ne 16, 3) := by decide +kernel
theorem dX5_ahead_38 : decode cX5_ahead 38 = .ok (.aload_n 0, 1) := by decide +kernel
theorem dX5_ahead_39 : decode cX5_ahead 39 = .ok (.iload_n 3, 1) := by decide +kernel
theorem dX5_ahead_40 : decode cX5_ahead 40 = .ok (.iload_n 1, 1) := by decide +kernel
theorem dX5_ahead_41 : decode cX5_ahead 41 = .ok (.invokevirtual 52, 3) := by decide +kernel
theorem dX5_ahead_44 : decode cX5_ahead 44 = .ok (.ifCond .eq 7, 3) := by decide +kernel
theorem dX5_ahead_47 : decode cX5_ahead 47 = .ok (.iconst 1, 1) := by decide +kernel
theorem dX5_ahead_48 : decode cX5_ahead 48 = .ok (.goto 4, 3) := by decide +kernel
theorem dX5_ahead_51 : decode cX5_ahead 51 = .ok (.iconst 0, 1) := by decide +kernel
theorem dX5_ahead_52 : decode cX5_ahead 52 = .ok (.iadd, 1) := by decide +kernel
theorem dX5_ahead_53 : decode cX5_ahead 53 = .ok (.istore_n 2, 1) := by decide +kernel
theorem dX5_ahead_54 : decode cX5_ahead 54 = .ok (.iinc 3 1, 3) := by decide +kernel
theorem dX5_ahead_57 : decode cX5_ahead 57 = .ok (.goto (-53), 3) := by decide +kernel
theorem dX5_ahead_60 : decode cX5_ahead 60 = .ok (.iload_n 2, 1) := by decide +kernel
theorem dX5_ahead_61 : decode cX5_ahead 61 = .ok (.ireturn, 1) := by decide +kernel
theorem dX5_queueAt_0 : decode cX5_queueAt 0 = .ok (.aload_n 0, 1) := by decide +kernel
theorem dX5_queueAt_1 : decode cX5_queueAt 1 = .ok (.iconst 0, 1) := by decide +kernel
theorem dX5_queueAt_2 : decode cX5_queueAt 2 = .ok (.putfield 27, 3) := by decide +kernel
theorem dX5_queueAt_5 : decode cX5_queueAt 5 = .ok (.aload_n 0, 1) := by decide +kernel
theorem dX5_queueAt_6 : decode cX5_queueAt 6 = .ok (.iload_n 1, 1) := by decide +kernel
theorem dX5_queueAt_7 : decode cX5_queueAt 7 = .ok (.invokevirtual 286, 3) := by decide +kernel
theorem dX5_queueAt_10 : decode cX5_queueAt 10 = .ok (.ifCond .eq 5, 3) := by decide +kernel
theorem dX5_queueAt_13 : decode cX5_queueAt 13 = .ok (.iconst 0, 1) := by decide +kernel
theorem dX5_queueAt_14 : decode cX5_queueAt 14 = .ok (.ireturn, 1) := by decide +kernel
theorem dX5_queueAt_15 : decode cX5_queueAt 15 = .ok (.iconst 0, 1) := by decide +kernel
theorem dX5_queueAt_16 : decode cX5_queueAt 16 = .ok (.istore_n 3, 1) := by decide +kernel
theorem dX5_queueAt_17 : decode cX5_queueAt 17 = .ok (.iload_n 3, 1) := by decide +kernel
theorem dX5_queueAt_18 : decode cX5_queueAt 18 = .ok (.aload_n 0, 1) := by decide +kernel
theorem dX5_queueAt_19 : decode cX5_queueAt 19 = .ok (.getfield 7, 3) := by decide +kernel
theorem dX5_queueAt_22 : decode cX5_queueAt 22 = .ok (.bipush 10, 2) := by decide +kernel
theorem dX5_queueAt_24 : decode cX5_queueAt 24 = .ok (.iaload, 1) := by decide +kernel
theorem dX5_queueAt_25 : decode cX5_queueAt 25 = .ok (.if_icmp .ge 38, 3) := by decide +kernel
theorem dX5_queueAt_28 : decode cX5_queueAt 28 = .ok (.aload_n 0, 1) := by decide +kernel
theorem dX5_queueAt_29 : decode cX5_queueAt 29 = .ok (.iload_n 3, 1) := by decide +kernel
theorem dX5_queueAt_30 : decode cX5_queueAt 30 = .ok (.invokevirtual 43, 3) := by decide +kernel
theorem dX5_queueAt_33 : decode cX5_queueAt 33 = .ok (.iconst 1, 1) := by decide +kernel
theorem dX5_queueAt_34 : decode cX5_queueAt 34 = .ok (.if_icmp .ne 23, 3) := by decide +kernel
theorem dX5_queueAt_37 : decode cX5_queueAt 37 = .ok (.aload_n 0, 1) := by decide +kernel
theorem dX5_queueAt_38 : decode cX5_queueAt 38 = .ok (.iload_n 3, 1) := by decide +kernel
theorem dX5_queueAt_39 : decode cX5_queueAt 39 = .ok (.invokevirtual 49, 3) := by decide +kernel
theorem dX5_queueAt_42 : decode cX5_queueAt 42 = .ok (.iload_n 1, 1) := by decide +kernel
theorem dX5_queueAt_43 : decode cX5_queueAt 43 = .ok (.if_icmp .ne 14, 3) := by decide +kernel
theorem dX5_queueAt_46 : decode cX5_queueAt 46 = .ok (.aload_n 0, 1) := by decide +kernel
theorem dX5_queueAt_47 : decode cX5_queueAt 47 = .ok (.iload_n 3, 1) := by decide +kernel
theorem dX5_queueAt_48 : decode cX5_queueAt 48 = .ok (.invokevirtual 291, 3) := by decide +kernel
theorem dX5_queueAt_51 : decode cX5_queueAt 51 = .ok (.iload_n 2, 1) := by decide +kernel
theorem dX5_queueAt_52 : decode cX5_queueAt 52 = .ok (.if_icmp .ne 5, 3) := by decide +kernel
theorem dX5_queueAt_55 : decode cX5_queueAt 55 = .ok (.iload_n 3, 1) := by decide +kernel
theorem dX5_queueAt_56 : decode cX5_queueAt 56 = .ok (.ireturn, 1) := by decide +kernel
theorem dX5_queueAt_57 : decode cX5_queueAt 57 = .ok (.iinc 3 1, 3) := by decide +kernel
theorem dX5_queueAt_60 : decode cX5_queueAt 60 = .ok (.goto (-43), 3) := by decide +kernel
theorem dX5_queueAt_63 : decode cX5_queueAt 63 = .ok (.iconst (-1), 1) := by decide +kernel
theorem dX5_queueAt_64 : decode cX5_queueAt 64 = .ok (.ireturn, 1) := by decide +kernel
theorem dX5_firstWaiting_0 : decode cX5_firstWaiting 0 = .ok (.aload_n 0, 1) := by decide +kernel
theorem dX5_firstWaiting_1 : decode cX5_firstWaiting 1 = .ok (.iconst 0, 1) := by decide +kernel
theorem dX5_firstWaiting_2 : decode cX5_firstWaiting 2 = .ok (.putfield 27, 3) := by decide +kernel
theorem dX5_firstWaiting_5 : decode cX5_firstWaiting 5 = .ok (.aload_n 0, 1) := by decide +kernel
theorem dX5_firstWaiting_6 : decode cX5_firstWaiting 6 = .ok (.iconst (-1), 1) := by decide +kernel
theorem dX5_firstWaiting_7 : decode cX5_firstWaiting 7 = .ok (.invokevirtual 74, 3) := by decide +kernel
theorem dX5_firstWaiting_10 : decode cX5_firstWaiting 10 = .ok (.ireturn, 1) := by decide +kernel
theorem dX5_ridingTo_0 : decode cX5_ridingTo 0 = .ok (.aload_n 0, 1) := by decide +kernel
theorem dX5_ridingTo_1 : decode cX5_ridingTo 1 = .ok (.iconst 0, 1) := by decide +kernel
theorem dX5_ridingTo_2 : decode cX5_ridingTo 2 = .ok (.putfield 27, 3) := by decide +kernel
theorem dX5_ridingTo_5 : decode cX5_ridingTo 5 = .ok (.aload_n 0, 1) := by decide +kernel
theorem dX5_ridingTo_6 : decode cX5_ridingTo 6 = .ok (.iload_n 1, 1) := by decide +kernel
theorem dX5_ridingTo_7 : decode cX5_ridingTo 7 = .ok (.invokevirtual 286, 3) := by decide +kernel
theorem dX5_ridingTo_10 : decode cX5_ridingTo 10 = .ok (.ifCond .eq 5, 3) := by decide +kernel
theorem dX5_ridingTo_13 : decode cX5_ridingTo 13 = .ok (.iconst 0, 1) := by decide +kernel
theorem dX5_ridingTo_14 : decode cX5_ridingTo 14 = .ok (.ireturn, 1) := by decide +kernel
theorem dX5_ridingTo_15 : decode cX5_ridingTo 15 = .ok (.iconst 0, 1) := by decide +kernel
theorem dX5_ridingTo_16 : decode cX5_ridingTo 16 = .ok (.istore_n 2, 1) := by decide +kernel
theorem dX5_ridingTo_17 : decode cX5_ridingTo 17 = .ok (.iconst 0, 1) := by decide +kernel
theorem dX5_ridingTo_18 : decode cX5_ridingTo 18 = .ok (.istore_n 3, 1) := by decide +kernel
theorem dX5_ridingTo_19 : decode cX5_ridingTo 19 = .ok (.iload_n 3, 1) := by decide +kernel
theorem dX5_ridingTo_20 : decode cX5_ridingTo 20 = .ok (.aload_n 0, 1) := by decide +kernel
theorem dX5_ridingTo_21 : decode cX5_ridingTo 21 = .ok (.getfield 7, 3) := by decide +kernel
theorem dX5_ridingTo_24 : decode cX5_ridingTo 24 = .ok (.bipush 10, 2) := by decide +kernel
theorem dX5_ridingTo_26 : decode cX5_ridingTo 26 = .ok (.iaload, 1) := by decide +kernel
theorem dX5_ridingTo_27 : decode cX5_ridingTo 27 = .ok (.if_icmp .ge 35, 3) := by decide +kernel
theorem dX5_ridingTo_30 : decode cX5_ridingTo 30 = .ok (.iload_n 2, 1) := by decide +kernel
theorem dX5_ridingTo_31 : decode cX5_ridingTo 31 = .ok (.aload_n 0, 1) := by decide +kernel
theorem dX5_ridingTo_32 : decode cX5_ridingTo 32 = .ok (.iload_n 3, 1) := by decide +kernel
theorem dX5_ridingTo_33 : decode cX5_ridingTo 33 = .ok (.invokevirtual 43, 3) := by decide +kernel
theorem dX5_ridingTo_36 : decode cX5_ridingTo 36 = .ok (.iconst 2, 1) := by decide +kernel
theorem dX5_ridingTo_37 : decode cX5_ridingTo 37 = .ok (.if_icmp .ne 16, 3) := by decide +kernel
theorem dX5_ridingTo_40 : decode cX5_ridingTo 40 = .ok (.aload_n 0, 1) := by decide +kernel
theorem dX5_ridingTo_41 : decode cX5_ridingTo 41 = .ok (.iload_n 3, 1) := by decide +kernel
theorem dX5_ridingTo_42 : decode cX5_ridingTo 42 = .ok (.invokevirtual 60, 3) := by decide +kernel
theorem dX5_ridingTo_45 : decode cX5_ridingTo 45 = .ok (.iload_n 1, 1) := by decide +kernel
theorem dX5_ridingTo_46 : decode cX5_ridingTo 46 = .ok (.if_icmp .ne 7, 3) := by decide +kernel
theorem dX5_ridingTo_49 : decode cX5_ridingTo 49 = .ok (.iconst 1, 1) := by decide +kernel
theorem dX5_ridingTo_50 : decode cX5_ridingTo 50 = .ok (.goto 4, 3) := by decide +kernel
theorem dX5_ridingTo_53 : decode cX5_ridingTo 53 = .ok (.iconst 0, 1) := by decide +kernel
theorem dX5_ridingTo_54 : decode cX5_ridingTo 54 = .ok (.iadd, 1) := by decide +kernel
theorem dX5_ridingTo_55 : decode cX5_ridingTo 55 = .ok (.istore_n 2, 1) := by decide +kernel
theorem dX5_ridingTo_56 : decode cX5_ridingTo 56 = .ok (.iinc 3 1, 3) := by decide +kernel
theorem dX5_ridingTo_59 : decode cX5_ridingTo 59 = .ok (.goto (-40), 3) := by decide +kernel
theorem dX5_ridingTo_62 : decode cX5_ridingTo 62 = .ok (.iload_n 2, 1) := by decide +kernel
theorem dX5_ridingTo_63 : decode cX5_ridingTo 63 = .ok (.ireturn, 1) := by decide +kernel
theorem dX5_startingAt_0 : decode cX5_startingAt 0 = .ok (.iconst 0, 1) := by decide +kernel
theorem dX5_startingAt_1 : decode cX5_startingAt 1 = .ok (.istore_n 2, 1) := by decide +kernel
theorem dX5_startingAt_2 : decode cX5_startingAt 2 = .ok (.iconst 0, 1) := by decide +kernel
theorem dX5_startingAt_3 : decode cX5_startingAt 3 = .ok (.istore_n 3, 1) := by decide +kernel
theorem dX5_startingAt_4 : decode cX5_startingAt 4 = .ok (.iload_n 3, 1) := by decide +kernel
theorem dX5_startingAt_5 : decode cX5_startingAt 5 = .ok (.aload_n 0, 1) := by decide +kernel
theorem dX5_startingAt_6 : decode cX5_startingAt 6 = .ok (.getfield 7, 3) := by decide +kernel
theorem dX5_startingAt_9 : decode cX5_startingAt 9 = .ok (.bipush 10, 2) := by decide +kernel
theorem dX5_startingAt_11 : decode cX5_startingAt 11 = .ok (.iaload, 1) := by decide +kernel
theorem dX5_startingAt_12 : decode cX5_startingAt 12 = .ok (.if_icmp .ge 26, 3) := by decide +kernel
theorem dX5_startingAt_15 : decode cX5_startingAt 15 = .ok (.iload_n 2, 1) := by decide +kernel
theorem dX5_startingAt_16 : decode cX5_startingAt 16 = .ok (.aload_n 0, 1) := by decide +kernel
theorem dX5_startingAt_17 : decode cX5_startingAt 17 = .ok (.iload_n 3, 1) := by decide +kernel
theorem dX5_startingAt_18 : decode cX5_startingAt 18 = .ok (.invokevirtual 49, 3) := by decide +kernel
theorem dX5_startingAt_21 : decode cX5_startingAt 21 = .ok (.iload_n 1, 1) := by decide +kernel
theorem dX5_startingAt_22 : decode cX5_startingAt 22 = .ok (.if_icmp .ne 7, 3) := by decide +kernel
theorem dX5_startingAt_25 : decode cX5_startingAt 25 = .ok (.iconst 1, 1) := by decide +kernel
theorem dX5_startingAt_26 : decode cX5_startingAt 26 = .ok (.goto 4, 3) := by decide +kernel
theorem dX5_startingAt_29 : decode cX5_startingAt 29 = .ok (.iconst 0, 1) := by decide +kernel
theorem dX5_startingAt_30 : decode cX5_startingAt 30 = .ok (.iadd, 1) := by decide +kernel
theorem dX5_startingAt_31 : decode cX5_startingAt 31 = .ok (.istore_n 2, 1) := by decide +kernel
theorem dX5_startingAt_32 : decode cX5_startingAt 32 = .ok (.iinc 3 1, 3) := by decide +kernel
theorem dX5_startingAt_35 : decode cX5_startingAt 35 = .ok (.goto (-31), 3) := by decide +kernel
theorem dX5_startingAt_38 : decode cX5_startingAt 38 = .ok (.iload_n 2, 1) := by decide +kernel
theorem dX5_startingAt_39 : decode cX5_startingAt 39 = .ok (.ireturn, 1) := by decide +kernel
theorem dX5_busiestOrigin_0 : decode cX5_busiestOrigin 0 = .ok (.aload_n 0, 1) := by decide +kernel
theorem dX5_busiestOrigin_1 : decode cX5_busiestOrigin 1 = .ok (.iconst 0, 1) := by decide +kernel
theorem dX5_busiestOrigin_2 : decode cX5_busiestOrigin 2 = .ok (.putfield 27, 3) := by decide +kernel
theorem dX5_busiestOrigin_5 : decode cX5_busiestOrigin 5 = .ok (.iconst 0, 1) := by decide +kernel
theorem dX5_busiestOrigin_6 : decode cX5_busiestOrigin 6 = .ok (.istore_n 1, 1) := by decide +kernel
theorem dX5_busiestOrigin_7 : decode cX5_busiestOrigin 7 = .ok (.iconst 1, 1) := by decide +kernel
theorem dX5_busiestOrigin_8 : decode cX5_busiestOrigin 8 = .ok (.istore_n 2, 1) := by decide +kernel
theorem dX5_busiestOrigin_9 : decode cX5_busiestOrigin 9 = .ok (.iload_n 2, 1) := by decide +kernel
theorem dX5_busiestOrigin_10 : decode cX5_busiestOrigin 10 = .ok (.aload_n 0, 1) := by decide +kernel
theorem dX5_busiestOrigin_11 : decode cX5_busiestOrigin 11 = .ok (.getfield 7, 3) := by decide +kernel
theorem dX5_busiestOrigin_14 : decode cX5_busiestOrigin 14 = .ok (.iconst 0, 1) := by decide +kernel
theorem dX5_busiestOrigin_15 : decode cX5_busiestOrigin 15 = .ok (.iaload, 1) := by decide +kernel
theorem dX5_busiestOrigin_16 : decode cX5_busiestOrigin 16 = .ok (.if_icmp .ge 28, 3) := by decide +kernel
theorem dX5_busiestOrigin_19 : decode cX5_busiestOrigin 19 = .ok (.aload_n 0, 1) := by decide +kernel
theorem dX5_busiestOrigin_20 : decode cX5_busiestOrigin 20 = .ok (.iload_n 2, 1) := by decide +kernel
theorem dX5_busiestOrigin_21 : decode cX5_busiestOrigin 21 = .ok (.invokevirtual 294, 3) := by decide +kernel
theorem dX5_busiestOrigin_24 : decode cX5_busiestOrigin 24 = .ok (.aload_n 0, 1) := by decide +kernel
theorem dX5_busiestOrigin_25 : decode cX5_busiestOrigin 25 = .ok (.iload_n 1, 1) := by decide +kernel
theorem dX5_busiestOrigin_26 : decode cX5_busiestOrigin 26 = .ok (.invokevirtual 294, 3) := by decide +kernel
theorem dX5_busiestOrigin_29 : decode cX5_busiestOrigin 29 = .ok (.if_icmp .le 7, 3) := by decide +kernel
theorem dX5_busiestOrigin_32 : decode cX5_busiestOrigin 32 = .ok (.iload_n 2, 1) := by decide +kernel
theorem dX5_busiestOrigin_33 : decode cX5_busiestOrigin 33 = .ok (.goto 4, 3) := by decide +kernel
theorem dX5_busiestOrigin_36 : decode cX5_busiestOrigin 36 = .ok (.iload_n 1, 1) := by decide +kernel
theorem dX5_busiestOrigin_37 : decode cX5_busiestOrigin 37 = .ok (.istore_n 1, 1) := by decide +kernel
theorem dX5_busiestOrigin_38 : decode cX5_busiestOrigin 38 = .ok (.iinc 2 1, 3) := by decide +kernel
theorem dX5_busiestOrigin_41 : decode cX5_busiestOrigin 41 = .ok (.goto (-32), 3) := by decide +kernel
theorem dX5_busiestOrigin_44 : decode cX5_busiestOrigin 44 = .ok (.aload_n 0, 1) := by decide +kernel
theorem dX5_busiestOrigin_45 : decode cX5_busiestOrigin 45 = .ok (.getfield 7, 3) := by decide +kernel
theorem dX5_busiestOrigin_48 : decode cX5_busiestOrigin 48 = .ok (.bipush 10, 2) := by decide +kernel
theorem dX5_busiestOrigin_50 : decode cX5_busiestOrigin 50 = .ok (.iaload, 1) := by decide +kernel
theorem dX5_busiestOrigin_51 : decode cX5_busiestOrigin 51 = .ok (.ifCond .ne 7, 3) := by decide +kernel
theorem dX5_busiestOrigin_54 : decode cX5_busiestOrigin 54 = .ok (.iconst (-1), 1) := by decide +kernel
theorem dX5_busiestOrigin_55 : decode cX5_busiestOrigin 55 = .ok (.goto 4, 3) := by decide +kernel
theorem dX5_busiestOrigin_58 : decode cX5_busiestOrigin 58 = .ok (.iload_n 1, 1) := by decide +kernel
theorem dX5_busiestOrigin_59 : decode cX5_busiestOrigin 59 = .ok (.ireturn, 1) := by decide +kernel
theorem dX5_passengersBetween_0 : decode cX5_passengersBetween 0 = .ok (.aload_n 0, 1) := by decide +kernel
theorem dX5_passengersBetween_1 : decode cX5_passengersBetween 1 = .ok (.iconst 0, 1) := by decide +kernel
theorem dX5_passengersBetween_2 : decode cX5_passengersBetween 2 = .ok (.putfield 27, 3) := by decide +kernel
theorem dX5_passengersBetween_5 : decode cX5_passengersBetween 5 = .ok (.aload_n 0, 1) := by decide +kernel
theorem dX5_passengersBetween_6 : decode cX5_passengersBetween 6 = .ok (.iload_n 1, 1) := by decide +kernel
theorem dX5_passengersBetween_7 : decode cX5_passengersBetween 7 = .ok (.invokevirtual 286, 3) := by decide +kernel
theorem dX5_passengersBetween_10 : decode cX5_passengersBetween 10 = .ok (.ifCond .ne 11, 3) := by decide +kernel
theorem dX5_passengersBetween_13 : decode cX5_passengersBetween 13 = .ok (.aload_n 0, 1) := by decide +kernel
theorem dX5_passengersBetween_14 : decode cX5_passengersBetween 14 = .ok (.iload_n 2, 1) := by decide +kernel
theorem dX5_passengersBetween_15 : decode cX5_passengersBetween 15 = .ok (.invokevirtual 286, 3) := by decide +kernel
theorem dX5_passengersBetween_18 : decode cX5_passengersBetween 18 = .ok (.ifCond .eq 5, 3) := by decide +kernel
theorem dX5_passengersBetween_21 : decode cX5_passengersBetween 21 = .ok (.iconst 0, 1) := by decide +kernel
theorem dX5_passengersBetween_22 : decode cX5_passengersBetween 22 = .ok (.ireturn, 1) := by decide +kernel
theorem dX5_passengersBetween_23 : decode cX5_passengersBetween 23 = .ok (.iconst 0, 1) := by decide +kernel
theorem dX5_passengersBetween_24 : decode cX5_passengersBetween 24 = .ok (.istore_n 3, 1) := by decide +kernel
theorem dX5_passengersBetween_25 : decode cX5_passengersBetween 25 = .ok (.iconst 0, 1) := by decide +kernel
theorem dX5_passengersBetween_26 : decode cX5_passengersBetween 26 = .ok (.istore 4, 2) := by decide +kernel
theorem dX5_passengersBetween_28 : decode cX5_passengersBetween 28 = .ok (.iload 4, 2) := by decide +kernel
theorem dX5_passengersBetween_30 : decode cX5_passengersBetween 30 = .ok (.aload_n 0, 1) := by decide +kernel
theorem dX5_passengersBetween_31 : decode cX5_passengersBetween 31 = .ok (.getfield 7, 3) := by decide +kernel
theorem dX5_passengersBetween_34 : decode cX5_passengersBetween 34 = .ok (.bipush 10, 2) := by decide +kernel
theorem dX5_passengersBetween_36 : decode cX5_passengersBetween 36 = .ok (.iaload, 1) := by decide +kernel
theorem dX5_passengersBetween_37 : decode cX5_passengersBetween 37 = .ok (.if_icmp .ge 37, 3) := by decide +kernel
theorem dX5_passengersBetween_40 : decode cX5_passengersBetween 40 = .ok (.iload_n 3, 1) := by decide +kernel
theorem dX5_passengersBetween_41 : decode cX5_passengersBetween 41 = .ok (.aload_n 0, 1) := by decide +kernel
theorem dX5_passengersBetween_42 : decode cX5_passengersBetween 42 = .ok (.iload 4, 2) := by decide +kernel
theorem dX5_passengersBetween_44 : decode cX5_passengersBetween 44 = .ok (.invokevirtual 49, 3) := by decide +kernel
theorem dX5_passengersBetween_47 : decode cX5_passengersBetween 47 = .ok (.iload_n 1, 1) := by decide +kernel
theorem dX5_passengersBetween_48 : decode cX5_passengersBetween 48 = .ok (.if_icmp .ne 17, 3) := by decide +kernel
theorem dX5_passengersBetween_51 : decode cX5_passengersBetween 51 = .ok (.aload_n 0, 1) := by decide +kernel
theorem dX5_passengersBetween_52 : decode cX5_passengersBetween 52 = .ok (.iload 4, 2) := by decide +kernel
theorem dX5_passengersBetween_54 : decode cX5_passengersBetween 54 = .ok (.invokevirtual 60, 3) := by decide +kernel
theorem dX5_passengersBetween_57 : decode cX5_passengersBetween 57 = .ok (.iload_n 2, 1) := by decide +kernel
theorem dX5_passengersBetween_58 : decode cX5_passengersBetween 58 = .ok (.if_icmp .ne 7, 3) := by decide +kernel
theorem dX5_passengersBetween_61 : decode cX5_passengersBetween 61 = .ok (.iconst 1, 1) := by decide +kernel
theorem dX5_passengersBetween_62 : decode cX5_passengersBetween 62 = .ok (.goto 4, 3) := by decide +kernel
theorem dX5_passengersBetween_65 : decode cX5_passengersBetween 65 = .ok (.iconst 0, 1) := by decide +kernel
theorem dX5_passengersBetween_66 : decode cX5_passengersBetween 66 = .ok (.iadd, 1) := by decide +kernel
theorem dX5_passengersBetween_67 : decode cX5_passengersBetween 67 = .ok (.istore_n 3, 1) := by decide +kernel
theorem dX5_passengersBetween_68 : decode cX5_passengersBetween 68 = .ok (.iinc 4 1, 3) := by decide +kernel
theorem dX5_passengersBetween_71 : decode cX5_passengersBetween 71 = .ok (.goto (-43), 3) := by decide +kernel
theorem dX5_passengersBetween_74 : decode cX5_passengersBetween 74 = .ok (.iload_n 3, 1) := by decide +kernel
theorem dX5_passengersBetween_75 : decode cX5_passengersBetween 75 = .ok (.ireturn, 1) := by decide +kernel
theorem dX5_nextArrival_0 : decode cX5_nextArrival 0 = .ok (.aload_n 0, 1) := by decide +kernel
theorem dX5_nextArrival_1 : decode cX5_nextArrival 1 = .ok (.iconst 0, 1) := by decide +kernel
theorem dX5_nextArrival_2 : decode cX5_nextArrival 2 = .ok (.putfield 27, 3) := by decide +kernel
theorem dX5_nextArrival_5 : decode cX5_nextArrival 5 = .ok (.iconst (-1), 1) := by decide +kernel
theorem dX5_nextArrival_6 : decode cX5_nextArrival 6 = .ok (.istore_n 1, 1) := by decide +kernel
theorem dX5_nextArrival_7 : decode cX5_nextArrival 7 = .ok (.iconst 0, 1) := by decide +kernel
theorem dX5_nextArrival_8 : decode cX5_nextArrival 8 = .ok (.istore_n 2, 1) := by decide +kernel
theorem dX5_nextArrival_9 : decode cX5_nextArrival 9 = .ok (.iload_n 2, 1) := by decide +kernel
theorem dX5_nextArrival_10 : decode cX5_nextArrival 10 = .ok (.aload_n 0, 1) := by decide +kernel
theorem dX5_nextArrival_11 : decode cX5_nextArrival 11 = .ok (.getfield 7, 3) := by decide +kernel
theorem dX5_nextArrival_14 : decode cX5_nextArrival 14 = .ok (.bipush 10, 2) := by decide +kernel
theorem dX5_nextArrival_16 : decode cX5_nextArrival 16 = .ok (.iaload, 1) := by decide +kernel
theorem dX5_nextArrival_17 : decode cX5_nextArrival 17 = .ok (.if_icmp .ge 51, 3) := by decide +kernel
theorem dX5_nextArrival_20 : decode cX5_nextArrival 20 = .ok (.aload_n 0, 1) := by decide +kernel
theorem dX5_nextArrival_21 : decode cX5_nextArrival 21 = .ok (.iload_n 2, 1) := by decide +kernel
theorem dX5_nextArrival_22 : decode cX5_nextArrival 22 = .ok (.invokevirtual 43, 3) := by decide +kernel
theorem dX5_nextArrival_25 : decode cX5_nextArrival 25 = .ok (.ifCond .ne 21, 3) := by decide +kernel
theorem dX5_nextArrival_28 : decode cX5_nextArrival 28 = .ok (.iload_n 1, 1) := by decide +kernel
theorem dX5_nextArrival_29 : decode cX5_nextArrival 29 = .ok (.iconst (-1), 1) := by decide +kernel
theorem dX5_nextArrival_30 : decode cX5_nextArrival 30 = .ok (.if_icmp .eq 12, 3) := by decide +kernel
theorem dX5_nextArrival_33 : decode cX5_nextArrival 33 = .ok (.aload_n 0, 1) := by decide +kernel
theorem dX5_nextArrival_34 : decode cX5_nextArrival 34 = .ok (.iload_n 2, 1) := by decide +kernel
theorem dX5_nextArrival_35 : decode cX5_nextArrival 35 = .ok (.invokevirtual 40, 3) := by decide +kernel
theorem dX5_nextArrival_38 : decode cX5_nextArrival 38 = .ok (.iload_n 1, 1) := by decide +kernel
theorem dX5_nextArrival_39 : decode cX5_nextArrival 39 = .ok (.if_icmp .ge 7, 3) := by decide +kernel
theorem dX5_nextArrival_42 : decode cX5_nextArrival 42 = .ok (.iconst 1, 1) := by decide +kernel
theorem dX5_nextArrival_43 : decode cX5_nextArrival 43 = .ok (.goto 4, 3) := by decide +kernel
theorem dX5_nextArrival_46 : decode cX5_nextArrival 46 = .ok (.iconst 0, 1) := by decide +kernel
theorem dX5_nextArrival_47 : decode cX5_nextArrival 47 = .ok (.istore_n 3, 1) := by decide +kernel
theorem dX5_nextArrival_48 : decode cX5_nextArrival 48 = .ok (.iload_n 3, 1) := by decide +kernel
theorem dX5_nextArrival_49 : decode cX5_nextArrival 49 = .ok (.ifCond .eq 11, 3) := by decide +kernel
theorem dX5_nextArrival_52 : decode cX5_nextArrival 52 = .ok (.aload_n 0, 1) := by decide +kernel
theorem dX5_nextArrival_53 : decode cX5_nextArrival 53 = .ok (.iload_n 2, 1) := by decide +kernel
theorem dX5_nextArrival_54 : decode cX5_nextArrival 54 = .ok (.invokevirtual 40, 3) := by decide +kernel
theorem dX5_nextArrival_57 : decode cX5_nextArrival 57 = .ok (.goto 4, 3) := by decide +kernel
theorem dX5_nextArrival_60 : decode cX5_nextArrival 60 = .ok (.iload_n 1, 1) := by decide +kernel
theorem dX5_nextArrival_61 : decode cX5_nextArrival 61 = .ok (.istore_n 1, 1) := by decide +kernel
theorem dX5_nextArrival_62 : decode cX5_nextArrival 62 = .ok (.iinc 2 1, 3) := by decide +kernel
theorem dX5_nextArrival_65 : decode cX5_nextArrival 65 = .ok (.goto (-56), 3) := by decide +kernel
theorem dX5_nextArrival_68 : decode cX5_nextArrival 68 = .ok (.iload_n 1, 1) := by decide +kernel
theorem dX5_nextArrival_69 : decode cX5_nextArrival 69 = .ok (.ireturn, 1) := by decide +kernel
theorem dX5_rides_0 : decode cX5_rides 0 = .ok (.iconst 0, 1) := by decide +kernel
theorem dX5_rides_1 : decode cX5_rides 1 = .ok (.istore_n 1, 1) := by decide +kernel
theorem dX5_rides_2 : decode cX5_rides 2 = .ok (.iconst 0, 1) := by decide +kernel
theorem dX5_rides_3 : decode cX5_rides 3 = .ok (.istore_n 2, 1) := by decide +kernel
theorem dX5_rides_4 : decode cX5_rides 4 = .ok (.iload_n 2, 1) := by decide +kernel
theorem dX5_rides_5 : decode cX5_rides 5 = .ok (.aload_n 0, 1) := by decide +kernel
theorem dX5_rides_6 : decode cX5_rides 6 = .ok (.getfield 7, 3) := by decide +kernel
theorem dX5_rides_9 : decode cX5_rides 9 = .ok (.bipush 10, 2) := by decide +kernel
theorem dX5_rides_11 : decode cX5_rides 11 = .ok (.iaload, 1) := by decide +kernel
theorem dX5_rides_12 : decode cX5_rides 12 = .ok (.if_icmp .ge 30, 3) := by decide +kernel
theorem dX5_rides_15 : decode cX5_rides 15 = .ok (.iload_n 1, 1) := by decide +kernel
theorem dX5_rides_16 : decode cX5_rides 16 = .ok (.aload_n 0, 1) := by decide +kernel
theorem dX5_rides_17 : decode cX5_rides 17 = .ok (.iload_n 2, 1) := by decide +kernel
theorem dX5_rides_18 : decode cX5_rides 18 = .ok (.invokevirtual 283, 3) := by decide +kernel
theorem dX5_rides_21 : decode cX5_rides 21 = .ok (.iconst (-1), 1) := by decide +kernel
theorem dX5_rides_22 : decode cX5_rides 22 = .ok (.if_icmp .ne 7, 3) := by decide +kernel
theorem dX5_rides_25 : decode cX5_rides 25 = .ok (.iconst 0, 1) := by decide +kernel
theorem dX5_rides_26 : decode cX5_rides 26 = .ok (.goto 8, 3) := by decide +kernel
theorem dX5_rides_29 : decode cX5_rides 29 = .ok (.aload_n 0, 1) := by decide +kernel
theorem dX5_rides_30 : decode cX5_rides 30 = .ok (.iload_n 2, 1) := by decide +kernel
theorem dX5_rides_31 : decode cX5_rides 31 = .ok (.invokevirtual 283, 3) := by decide +kernel
theorem dX5_rides_34 : decode cX5_rides 34 = .ok (.iadd, 1) := by decide +kernel
theorem dX5_rides_35 : decode cX5_rides 35 = .ok (.istore_n 1, 1) := by decide +kernel
theorem dX5_rides_36 : decode cX5_rides 36 = .ok (.iinc 2 1, 3) := by decide +kernel
theorem dX5_rides_39 : decode cX5_rides 39 = .ok (.goto (-35), 3) := by decide +kernel
theorem dX5_rides_42 : decode cX5_rides 42 = .ok (.iload_n 1, 1) := by decide +kernel
theorem dX5_rides_43 : decode cX5_rides 43 = .ok (.ireturn, 1) := by decide +kernel
theorem dX5_waits_0 : decode cX5_waits 0 = .ok (.iconst 0, 1) := by decide +kernel
theorem dX5_waits_1 : decode cX5_waits 1 = .ok (.istore_n 1, 1) := by decide +kernel
theorem dX5_waits_2 : decode cX5_waits 2 = .ok (.iconst 0, 1) := by decide +kernel
theorem dX5_waits_3 : decode cX5_waits 3 = .ok (.istore_n 2, 1) := by decide +kernel
theorem dX5_waits_4 : decode cX5_waits 4 = .ok (.iload_n 2, 1) := by decide +kernel
theorem dX5_waits_5 : decode cX5_waits 5 = .ok (.aload_n 0, 1) := by decide +kernel
theorem dX5_waits_6 : decode cX5_waits 6 = .ok (.getfield 7, 3) := by decide +kernel
theorem dX5_waits_9 : decode cX5_waits 9 = .ok (.bipush 10, 2) := by decide +kernel
theorem dX5_waits_11 : decode cX5_waits 11 = .ok (.iaload, 1) := by decide +kernel
theorem dX5_waits_12 : decode cX5_waits 12 = .ok (.if_icmp .ge 30, 3) := by decide +kernel
theorem dX5_waits_15 : decode cX5_waits 15 = .ok (.iload_n 1, 1) := by decide +kernel
theorem dX5_waits_16 : decode cX5_waits 16 = .ok (.aload_n 0, 1) := by decide +kernel
theorem dX5_waits_17 : decode cX5_waits 17 = .ok (.iload_n 2, 1) := by decide +kernel
theorem dX5_waits_18 : decode cX5_waits 18 = .ok (.invokevirtual 280, 3) := by decide +kernel
theorem dX5_waits_21 : decode cX5_waits 21 = .ok (.iconst (-1), 1) := by decide +kernel
theorem dX5_waits_22 : decode cX5_waits 22 = .ok (.if_icmp .ne 7, 3) := by decide +kernel
theorem dX5_waits_25 : decode cX5_waits 25 = .ok (.iconst 0, 1) := by decide +kernel
theorem dX5_waits_26 : decode cX5_waits 26 = .ok (.goto 8, 3) := by decide +kernel
theorem dX5_waits_29 : decode cX5_waits 29 = .ok (.aload_n 0, 1) := by decide +kernel
theorem dX5_waits_30 : decode cX5_waits 30 = .ok (.iload_n 2, 1) := by decide +kernel
theorem dX5_waits_31 : decode cX5_waits 31 = .ok (.invokevirtual 280, 3) := by decide +kernel
theorem dX5_waits_34 : decode cX5_waits 34 = .ok (.iadd, 1) := by decide +kernel
theorem dX5_waits_35 : decode cX5_waits 35 = .ok (.istore_n 1, 1) := by decide +kernel
theorem dX5_waits_36 : decode cX5_waits 36 = .ok (.iinc 2 1, 3) := by decide +kernel
theorem dX5_waits_39 : decode cX5_waits 39 = .ok (.goto (-35), 3) := by decide +kernel
theorem dX5_waits_42 : decode cX5_waits 42 = .ok (.iload_n 1, 1) := by decide +kernel
theorem dX5_waits_43 : decode cX5_waits 43 = .ok (.ireturn, 1) := by decide +kernel
theorem dX5_greatestWait_0 : decode cX5_greatestWait 0 = .ok (.iconst 0, 1) := by decide +kernel
theorem dX5_greatestWait_1 : decode cX5_greatestWait 1 = .ok (.istore_n 1, 1) := by decide +kernel
theorem dX5_greatestWait_2 : decode cX5_greatestWait 2 = .ok (.iconst 0, 1) := by decide +kernel
theorem dX5_greatestWait_3 : decode cX5_greatestWait 3 = .ok (.istore_n 2, 1) := by decide +kernel
theorem dX5_greatestWait_4 : decode cX5_greatestWait 4 = .ok (.iload_n 2, 1) := by decide +kernel
theorem dX5_greatestWait_5 : decode cX5_greatestWait 5 = .ok (.aload_n 0, 1) := by decide +kernel
theorem dX5_greatestWait_6 : decode cX5_greatestWait 6 = .ok (.getfield 7, 3) := by decide +kernel
theorem dX5_greatestWait_9 : decode cX5_greatestWait 9 = .ok (.bipush 10, 2) := by decide +kernel
theorem dX5_greatestWait_11 : decode cX5_greatestWait 11 = .ok (.iaload, 1) := by decide +kernel
theorem dX5_greatestWait_12 : decode cX5_greatestWait 12 = .ok (.if_icmp .ge 28, 3) := by decide +kernel
theorem dX5_greatestWait_15 : decode cX5_greatestWait 15 = .ok (.aload_n 0, 1) := by decide +kernel
theorem dX5_greatestWait_16 : decode cX5_greatestWait 16 = .ok (.iload_n 2, 1) := by decide +kernel
theorem dX5_greatestWait_17 : decode cX5_greatestWait 17 = .ok (.invokevirtual 280, 3) := by decide +kernel
theorem dX5_greatestWait_20 : decode cX5_greatestWait 20 = .ok (.iload_n 1, 1) := by decide +kernel
theorem dX5_greatestWait_21 : decode cX5_greatestWait 21 = .ok (.if_icmp .le 11, 3) := by decide +kernel
theorem dX5_greatestWait_24 : decode cX5_greatestWait 24 = .ok (.aload_n 0, 1) := by decide +kernel
theorem dX5_greatestWait_25 : decode cX5_greatestWait 25 = .ok (.iload_n 2, 1) := by decide +kernel
theorem dX5_greatestWait_26 : decode cX5_greatestWait 26 = .ok (.invokevirtual 280, 3) := by decide +kernel
theorem dX5_greatestWait_29 : decode cX5_greatestWait 29 = .ok (.goto 4, 3) := by decide +kernel
theorem dX5_greatestWait_32 : decode cX5_greatestWait 32 = .ok (.iload_n 1, 1) := by decide +kernel
theorem dX5_greatestWait_33 : decode cX5_greatestWait 33 = .ok (.istore_n 1, 1) := by decide +kernel
theorem dX5_greatestWait_34 : decode cX5_greatestWait 34 = .ok (.iinc 2 1, 3) := by decide +kernel
theorem dX5_greatestWait_37 : decode cX5_greatestWait 37 = .ok (.goto (-33), 3) := by decide +kernel
theorem dX5_greatestWait_40 : decode cX5_greatestWait 40 = .ok (.iload_n 1, 1) := by decide +kernel
theorem dX5_greatestWait_41 : decode cX5_greatestWait 41 = .ok (.ireturn, 1) := by decide +kernel
theorem dX5_totalRide_0 : decode cX5_totalRide 0 = .ok (.aload_n 0, 1) := by decide +kernel
theorem dX5_totalRide_1 : decode cX5_totalRide 1 = .ok (.iconst 0, 1) := by decide +kernel
theorem dX5_totalRide_2 : decode cX5_totalRide 2 = .ok (.putfield 27, 3) := by decide +kernel
theorem dX5_totalRide_5 : decode cX5_totalRide 5 = .ok (.aload_n 0, 1) := by decide +kernel
theorem dX5_totalRide_6 : decode cX5_totalRide 6 = .ok (.invokevirtual 297, 3) := by decide +kernel
theorem dX5_totalRide_9 : decode cX5_totalRide 9 = .ok (.ireturn, 1) := by decide +kernel
theorem dX5_longestRide_0 : decode cX5_longestRide 0 = .ok (.aload_n 0, 1) := by decide +kernel
theorem dX5_longestRide_1 : decode cX5_longestRide 1 = .ok (.iconst 0, 1) := by decide +kernel
theorem dX5_longestRide_2 : decode cX5_longestRide 2 = .ok (.putfield 27, 3) := by decide +kernel
theorem dX5_longestRide_5 : decode cX5_longestRide 5 = .ok (.iconst 0, 1) := by decide +kernel
theorem dX5_longestRide_6 : decode cX5_longestRide 6 = .ok (.istore_n 1, 1) := by decide +kernel
theorem dX5_longestRide_7 : decode cX5_longestRide 7 = .ok (.iconst 0, 1) := by decide +kernel
theorem dX5_longestRide_8 : decode cX5_longestRide 8 = .ok (.istore_n 2, 1) := by decide +kernel
theorem dX5_longestRide_9 : decode cX5_longestRide 9 = .ok (.iload_n 2, 1) := by decide +kernel
theorem dX5_longestRide_10 : decode cX5_longestRide 10 = .ok (.aload_n 0, 1) := by decide +kernel
theorem dX5_longestRide_11 : decode cX5_longestRide 11 = .ok (.getfield 7, 3) := by decide +kernel
theorem dX5_longestRide_14 : decode cX5_longestRide 14 = .ok (.bipush 10, 2) := by decide +kernel
theorem dX5_longestRide_16 : decode cX5_longestRide 16 = .ok (.iaload, 1) := by decide +kernel
theorem dX5_longestRide_17 : decode cX5_longestRide 17 = .ok (.if_icmp .ge 28, 3) := by decide +kernel
theorem dX5_longestRide_20 : decode cX5_longestRide 20 = .ok (.aload_n 0, 1) := by decide +kernel
theorem dX5_longestRide_21 : decode cX5_longestRide 21 = .ok (.iload_n 2, 1) := by decide +kernel
theorem dX5_longestRide_22 : decode cX5_longestRide 22 = .ok (.invokevirtual 283, 3) := by decide +kernel
theorem dX5_longestRide_25 : decode cX5_longestRide 25 = .ok (.iload_n 1, 1) := by decide +kernel
theorem dX5_longestRide_26 : decode cX5_longestRide 26 = .ok (.if_icmp .le 11, 3) := by decide +kernel
theorem dX5_longestRide_29 : decode cX5_longestRide 29 = .ok (.aload_n 0, 1) := by decide +kernel
theorem dX5_longestRide_30 : decode cX5_longestRide 30 = .ok (.iload_n 2, 1) := by decide +kernel
theorem dX5_longestRide_31 : decode cX5_longestRide 31 = .ok (.invokevirtual 283, 3) := by decide +kernel
theorem dX5_longestRide_34 : decode cX5_longestRide 34 = .ok (.goto 4, 3) := by decide +kernel
theorem dX5_longestRide_37 : decode cX5_longestRide 37 = .ok (.iload_n 1, 1) := by decide +kernel
theorem dX5_longestRide_38 : decode cX5_longestRide 38 = .ok (.istore_n 1, 1) := by decide +kernel
theorem dX5_longestRide_39 : decode cX5_longestRide 39 = .ok (.iinc 2 1, 3) := by decide +kernel
theorem dX5_longestRide_42 : decode cX5_longestRide 42 = .ok (.goto (-33), 3) := by decide +kernel
theorem dX5_longestRide_45 : decode cX5_longestRide 45 = .ok (.iload_n 1, 1) := by decide +kernel
theorem dX5_longestRide_46 : decode cX5_longestRide 46 = .ok (.ireturn, 1) := by decide +kernel
theorem dX5_lastDone_0 : decode cX5_lastDone 0 = .ok (.aload_n 0, 1) := by decide +kernel
theorem dX5_lastDone_1 : decode cX5_lastDone 1 = .ok (.iconst 0, 1) := by decide +kernel
theorem dX5_lastDone_2 : decode cX5_lastDone 2 = .ok (.putfield 27, 3) := by decide +kernel
theorem dX5_lastDone_5 : decode cX5_lastDone 5 = .ok (.iconst (-1), 1) := by decide +kernel
theorem dX5_lastDone_6 : decode cX5_lastDone 6 = .ok (.istore_n 1, 1) := by decide +kernel
theorem dX5_lastDone_7 : decode cX5_lastDone 7 = .ok (.iconst 0, 1) := by decide +kernel
theorem dX5_lastDone_8 : decode cX5_lastDone 8 = .ok (.istore_n 2, 1) := by decide +kernel
theorem dX5_lastDone_9 : decode cX5_lastDone 9 = .ok (.iload_n 2, 1) := by decide +kernel
theorem dX5_lastDone_10 : decode cX5_lastDone 10 = .ok (.aload_n 0, 1) := by decide +kernel
theorem dX5_lastDone_11 : decode cX5_lastDone 11 = .ok (.getfield 7, 3) := by decide +kernel
theorem dX5_lastDone_14 : decode cX5_lastDone 14 = .ok (.bipush 10, 2) := by decide +kernel
theorem dX5_lastDone_16 : decode cX5_lastDone 16 = .ok (.iaload, 1) := by decide +kernel
theorem dX5_lastDone_17 : decode cX5_lastDone 17 = .ok (.if_icmp .ge 52, 3) := by decide +kernel
theorem dX5_lastDone_20 : decode cX5_lastDone 20 = .ok (.aload_n 0, 1) := by decide +kernel
theorem dX5_lastDone_21 : decode cX5_lastDone 21 = .ok (.iload_n 2, 1) := by decide +kernel
theorem dX5_lastDone_22 : decode cX5_lastDone 22 = .ok (.invokevirtual 34, 3) := by decide +kernel
theorem dX5_lastDone_25 : decode cX5_lastDone 25 = .ok (.iconst (-1), 1) := by decide +kernel
theorem dX5_lastDone_26 : decode cX5_lastDone 26 = .ok (.if_icmp .eq 25, 3) := by decide +kernel
theorem dX5_lastDone_29 : decode cX5_lastDone 29 = .ok (.iload_n 1, 1) := by decide +kernel
theorem dX5_lastDone_30 : decode cX5_lastDone 30 = .ok (.iconst (-1), 1) := by decide +kernel
theorem dX5_lastDone_31 : decode cX5_lastDone 31 = .ok (.if_icmp .eq 16, 3) := by decide +kernel
theorem dX5_lastDone_34 : decode cX5_lastDone 34 = .ok (.aload_n 0, 1) := by decide +kernel
theorem dX5_lastDone_35 : decode cX5_lastDone 35 = .ok (.iload_n 2, 1) := by decide +kernel
theorem dX5_lastDone_36 : decode cX5_lastDone 36 = .ok (.invokevirtual 34, 3) := by decide +kernel
theorem dX5_lastDone_39 : decode cX5_lastDone 39 = .ok (.aload_n 0, 1) := by decide +kernel
theorem dX5_lastDone_40 : decode cX5_lastDone 40 = .ok (.iload_n 1, 1) := by decide +kernel
theorem dX5_lastDone_41 : decode cX5_lastDone 41 = .ok (.invokevirtual 34, 3) := by decide +kernel
theorem dX5_lastDone_44 : decode cX5_lastDone 44 = .ok (.if_icmp .le 7, 3) := by decide +kernel
theorem dX5_lastDone_47 : decode cX5_lastDone 47 = .ok (.iconst 1, 1) := by decide +kernel
theorem dX5_lastDone_48 : decode cX5_lastDone 48 = .ok (.goto 4, 3) := by decide +kernel
theorem dX5_lastDone_51 : decode cX5_lastDone 51 = .ok (.iconst 0, 1) := by decide +kernel
theorem dX5_lastDone_52 : decode cX5_lastDone 52 = .ok (.istore_n 3, 1) := by decide +kernel
theorem dX5_lastDone_53 : decode cX5_lastDone 53 = .ok (.iload_n 3, 1) := by decide +kernel
theorem dX5_lastDone_54 : decode cX5_lastDone 54 = .ok (.ifCond .eq 7, 3) := by decide +kernel
theorem dX5_lastDone_57 : decode cX5_lastDone 57 = .ok (.iload_n 2, 1) := by decide +kernel
theorem dX5_lastDone_58 : decode cX5_lastDone 58 = .ok (.goto 4, 3) := by decide +kernel
theorem dX5_lastDone_61 : decode cX5_lastDone 61 = .ok (.iload_n 1, 1) := by decide +kernel
theorem dX5_lastDone_62 : decode cX5_lastDone 62 = .ok (.istore_n 1, 1) := by decide +kernel
theorem dX5_lastDone_63 : decode cX5_lastDone 63 = .ok (.iinc 2 1, 3) := by decide +kernel
theorem dX5_lastDone_66 : decode cX5_lastDone 66 = .ok (.goto (-57), 3) := by decide +kernel
theorem dX5_lastDone_69 : decode cX5_lastDone 69 = .ok (.iload_n 1, 1) := by decide +kernel
theorem dX5_lastDone_70 : decode cX5_lastDone 70 = .ok (.ireturn, 1) := by decide +kernel
theorem dX5_movingShare_0 : decode cX5_movingShare 0 = .ok (.aload_n 0, 1) := by decide +kernel
theorem dX5_movingShare_1 : decode cX5_movingShare 1 = .ok (.iconst 0, 1) := by decide +kernel
theorem dX5_movingShare_2 : decode cX5_movingShare 2 = .ok (.putfield 27, 3) := by decide +kernel
theorem dX5_movingShare_5 : decode cX5_movingShare 5 = .ok (.aload_n 0, 1) := by decide +kernel
theorem dX5_movingShare_6 : decode cX5_movingShare 6 = .ok (.getfield 7, 3) := by decide +kernel
theorem dX5_movingShare_9 : decode cX5_movingShare 9 = .ok (.iconst 3, 1) := by decide +kernel
theorem dX5_movingShare_10 : decode cX5_movingShare 10 = .ok (.iaload, 1) := by decide +kernel
theorem dX5_movingShare_11 : decode cX5_movingShare 11 = .ok (.ifCond .ne 7, 3) := by decide +kernel
theorem dX5_movingShare_14 : decode cX5_movingShare 14 = .ok (.fconst 0, 1) := by decide +kernel
theorem dX5_movingShare_15 : decode cX5_movingShare 15 = .ok (.goto 19, 3) := by decide +kernel
theorem dX5_movingShare_18 : decode cX5_movingShare 18 = .ok (.aload_n 0, 1) := by decide +kernel
theorem dX5_movingShare_19 : decode cX5_movingShare 19 = .ok (.getfield 7, 3) := by decide +kernel
theorem dX5_movingShare_22 : decode cX5_movingShare 22 = .ok (.bipush 6, 2) := by decide +kernel
theorem dX5_movingShare_24 : decode cX5_movingShare 24 = .ok (.iaload, 1) := by decide +kernel
theorem dX5_movingShare_25 : decode cX5_movingShare 25 = .ok (.i2f, 1) := by decide +kernel
theorem dX5_movingShare_26 : decode cX5_movingShare 26 = .ok (.aload_n 0, 1) := by decide +kernel
theorem dX5_movingShare_27 : decode cX5_movingShare 27 = .ok (.getfield 7, 3) := by decide +kernel
theorem dX5_movingShare_30 : decode cX5_movingShare 30 = .ok (.iconst 3, 1) := by decide +kernel
theorem dX5_movingShare_31 : decode cX5_movingShare 31 = .ok (.iaload, 1) := by decide +kernel
theorem dX5_movingShare_32 : decode cX5_movingShare 32 = .ok (.i2f, 1) := by decide +kernel
theorem dX5_movingShare_33 : decode cX5_movingShare 33 = .ok (.fdiv, 1) := by decide +kernel
theorem dX5_movingShare_34 : decode cX5_movingShare 34 = .ok (.freturn, 1) := by decide +kernel
theorem dX5_totalWait_0 : decode cX5_totalWait 0 = .ok (.aload_n 0, 1) := by decide +kernel
theorem dX5_totalWait_1 : decode cX5_totalWait 1 = .ok (.iconst 0, 1) := by decide +kernel
theorem dX5_totalWait_2 : decode cX5_totalWait 2 = .ok (.putfield 27, 3) := by decide +kernel
theorem dX5_totalWait_5 : decode cX5_totalWait 5 = .ok (.aload_n 0, 1) := by decide +kernel
theorem dX5_totalWait_6 : decode cX5_totalWait 6 = .ok (.invokevirtual 300, 3) := by decide +kernel
theorem dX5_totalWait_9 : decode cX5_totalWait 9 = .ok (.ireturn, 1) := by decide +kernel
theorem dX5_longestWait_0 : decode cX5_longestWait 0 = .ok (.aload_n 0, 1) := by decide +kernel
theorem dX5_longestWait_1 : decode cX5_longestWait 1 = .ok (.iconst 0, 1) := by decide +kernel
theorem dX5_longestWait_2 : decode cX5_longestWait 2 = .ok (.putfield 27, 3) := by decide +kernel
theorem dX5_longestWait_5 : decode cX5_longestWait 5 = .ok (.aload_n 0, 1) := by decide +kernel
theorem dX5_longestWait_6 : decode cX5_longestWait 6 = .ok (.invokevirtual 303, 3) := by decide +kernel
theorem dX5_longestWait_9 : decode cX5_longestWait 9 = .ok (.ireturn, 1) := by decide +kernel
theorem dX5_meanWait_0 : decode cX5_meanWait 0 = .ok (.aload_n 0, 1) := by decide +kernel
theorem dX5_meanWait_1 : decode cX5_meanWait 1 = .ok (.iconst 0, 1) := by decide +kernel
theorem dX5_meanWait_2 : decode cX5_meanWait 2 = .ok (.putfield 27, 3) := by decide +kernel
theorem dX5_meanWait_5 : decode cX5_meanWait 5 = .ok (.aload_n 0, 1) := by decide +kernel
theorem dX5_meanWait_6 : decode cX5_meanWait 6 = .ok (.iconst 2, 1) := by decide +kernel
theorem dX5_meanWait_7 : decode cX5_meanWait 7 = .ok (.invokevirtual 46, 3) := by decide +kernel
theorem dX5_meanWait_10 : decode cX5_meanWait 10 = .ok (.aload_n 0, 1) := by decide +kernel
theorem dX5_meanWait_11 : decode cX5_meanWait 11 = .ok (.iconst 3, 1) := by decide +kernel
theorem dX5_meanWait_12 : decode cX5_meanWait 12 = .ok (.invokevirtual 46, 3) := by decide +kernel
theorem dX5_meanWait_15 : decode cX5_meanWait 15 = .ok (.iadd, 1) := by decide +kernel
theorem dX5_meanWait_16 : decode cX5_meanWait 16 = .ok (.istore_n 1, 1) := by decide +kernel
theorem dX5_meanWait_17 : decode cX5_meanWait 17 = .ok (.iload_n 1, 1) := by decide +kernel
theorem dX5_meanWait_18 : decode cX5_meanWait 18 = .ok (.ifCond .ne 7, 3) := by decide +kernel
theorem dX5_meanWait_21 : decode cX5_meanWait 21 = .ok (.dconst 0, 1) := by decide +kernel
theorem dX5_meanWait_22 : decode cX5_meanWait 22 = .ok (.goto 11, 3) := by decide +kernel
theorem dX5_meanWait_25 : decode cX5_meanWait 25 = .ok (.aload_n 0, 1) := by decide +kernel
theorem dX5_meanWait_26 : decode cX5_meanWait 26 = .ok (.invokevirtual 300, 3) := by decide +kernel
theorem dX5_meanWait_29 : decode cX5_meanWait 29 = .ok (.i2d, 1) := by decide +kernel
theorem dX5_meanWait_30 : decode cX5_meanWait 30 = .ok (.iload_n 1, 1) := by decide +kernel
theorem dX5_meanWait_31 : decode cX5_meanWait 31 = .ok (.i2d, 1) := by decide +kernel
theorem dX5_meanWait_32 : decode cX5_meanWait 32 = .ok (.ddiv, 1) := by decide +kernel
theorem dX5_meanWait_33 : decode cX5_meanWait 33 = .ok (.dreturn, 1) := by decide +kernel
theorem dX5_isFinished_0 : decode cX5_isFinished 0 = .ok (.aload_n 0, 1) := by decide +kernel
theorem dX5_isFinished_1 : decode cX5_isFinished 1 = .ok (.iconst 0, 1) := by decide +kernel
theorem dX5_isFinished_2 : decode cX5_isFinished 2 = .ok (.putfield 27, 3) := by decide +kernel
theorem dX5_isFinished_5 : decode cX5_isFinished 5 = .ok (.aload_n 0, 1) := by decide +kernel
theorem dX5_isFinished_6 : decode cX5_isFinished 6 = .ok (.invokevirtual 101, 3) := by decide +kernel
theorem dX5_isFinished_9 : decode cX5_isFinished 9 = .ok (.ireturn, 1) := by decide +kernel
theorem dX5_ticksToFinish_0 : decode cX5_ticksToFinish 0 = .ok (.aload_n 0, 1) := by decide +kernel
theorem dX5_ticksToFinish_1 : decode cX5_ticksToFinish 1 = .ok (.iconst 0, 1) := by decide +kernel
theorem dX5_ticksToFinish_2 : decode cX5_ticksToFinish 2 = .ok (.putfield 27, 3) := by decide +kernel
theorem dX5_ticksToFinish_5 : decode cX5_ticksToFinish 5 = .ok (.aload_n 0, 1) := by decide +kernel
theorem dX5_ticksToFinish_6 : decode cX5_ticksToFinish 6 = .ok (.bipush 11, 2) := by decide +kernel
theorem dX5_ticksToFinish_8 : decode cX5_ticksToFinish 8 = .ok (.invokevirtual 114, 3) := by decide +kernel
theorem dX5_ticksToFinish_11 : decode cX5_ticksToFinish 11 = .ok (.aload_n 0, 1) := by decide +kernel
theorem dX5_ticksToFinish_12 : decode cX5_ticksToFinish 12 = .ok (.invokevirtual 306, 3) := by decide +kernel
theorem dX5_ticksToFinish_15 : decode cX5_ticksToFinish 15 = .ok (.istore_n 1, 1) := by decide +kernel
theorem dX5_ticksToFinish_16 : decode cX5_ticksToFinish 16 = .ok (.aload_n 0, 1) := by decide +kernel
theorem dX5_ticksToFinish_17 : decode cX5_ticksToFinish 17 = .ok (.bipush 11, 2) := by decide +kernel
theorem dX5_ticksToFinish_19 : decode cX5_ticksToFinish 19 = .ok (.invokevirtual 249, 3) := by decide +kernel
theorem dX5_ticksToFinish_22 : decode cX5_ticksToFinish 22 = .ok (.iload_n 1, 1) := by decide +kernel
theorem dX5_ticksToFinish_23 : decode cX5_ticksToFinish 23 = .ok (.ireturn, 1) := by decide +kernel
theorem dX5_ticksWithPolicy_0 : decode cX5_ticksWithPolicy 0 = .ok (.aload_n 0, 1) := by decide +kernel
theorem dX5_ticksWithPolicy_1 : decode cX5_ticksWithPolicy 1 = .ok (.iconst 0, 1) := by decide +kernel
theorem dX5_ticksWithPolicy_2 : decode cX5_ticksWithPolicy 2 = .ok (.putfield 27, 3) := by decide +kernel
theorem dX5_ticksWithPolicy_5 : decode cX5_ticksWithPolicy 5 = .ok (.aload_n 0, 1) := by decide +kernel
theorem dX5_ticksWithPolicy_6 : decode cX5_ticksWithPolicy 6 = .ok (.iload_n 1, 1) := by decide +kernel
theorem dX5_ticksWithPolicy_7 : decode cX5_ticksWithPolicy 7 = .ok (.invokevirtual 274, 3) := by decide +kernel
theorem dX5_ticksWithPolicy_10 : decode cX5_ticksWithPolicy 10 = .ok (.ifCond .eq 5, 3) := by decide +kernel
theorem dX5_ticksWithPolicy_13 : decode cX5_ticksWithPolicy 13 = .ok (.iconst 0, 1) := by decide +kernel
theorem dX5_ticksWithPolicy_14 : decode cX5_ticksWithPolicy 14 = .ok (.ireturn, 1) := by decide +kernel
theorem dX5_ticksWithPolicy_15 : decode cX5_ticksWithPolicy 15 = .ok (.aload_n 0, 1) := by decide +kernel
theorem dX5_ticksWithPolicy_16 : decode cX5_ticksWithPolicy 16 = .ok (.bipush 11, 2) := by decide +kernel
theorem dX5_ticksWithPolicy_18 : decode cX5_ticksWithPolicy 18 = .ok (.invokevirtual 114, 3) := by decide +kernel
theorem dX5_ticksWithPolicy_21 : decode cX5_ticksWithPolicy 21 = .ok (.aload_n 0, 1) := by decide +kernel
theorem dX5_ticksWithPolicy_22 : decode cX5_ticksWithPolicy 22 = .ok (.getfield 7, 3) := by decide +kernel
theorem dX5_ticksWithPolicy_25 : decode cX5_ticksWithPolicy 25 = .ok (.iconst 2, 1) := by decide +kernel
theorem dX5_ticksWithPolicy_26 : decode cX5_ticksWithPolicy 26 = .ok (.iload_n 1, 1) := by decide +kernel
theorem dX5_ticksWithPolicy_27 : decode cX5_ticksWithPolicy 27 = .ok (.iastore, 1) := by decide +kernel
theorem dX5_ticksWithPolicy_28 : decode cX5_ticksWithPolicy 28 = .ok (.aload_n 0, 1) := by decide +kernel
theorem dX5_ticksWithPolicy_29 : decode cX5_ticksWithPolicy 29 = .ok (.invokevirtual 306, 3) := by decide +kernel
theorem dX5_ticksWithPolicy_32 : decode cX5_ticksWithPolicy 32 = .ok (.istore_n 2, 1) := by decide +kernel
theorem dX5_ticksWithPolicy_33 : decode cX5_ticksWithPolicy 33 = .ok (.aload_n 0, 1) := by decide +kernel
theorem dX5_ticksWithPolicy_34 : decode cX5_ticksWithPolicy 34 = .ok (.bipush 11, 2) := by decide +kernel
theorem dX5_ticksWithPolicy_36 : decode cX5_ticksWithPolicy 36 = .ok (.invokevirtual 249, 3) := by decide +kernel
theorem dX5_ticksWithPolicy_39 : decode cX5_ticksWithPolicy 39 = .ok (.iload_n 2, 1) := by decide +kernel
theorem dX5_ticksWithPolicy_40 : decode cX5_ticksWithPolicy 40 = .ok (.ireturn, 1) := by decide +kernel
theorem dX5_waitsBy_0 : decode cX5_waitsBy 0 = .ok (.aload_n 0, 1) := by decide +kernel
theorem dX5_waitsBy_1 : decode cX5_waitsBy 1 = .ok (.bipush 11, 2) := by decide +kernel
theorem dX5_waitsBy_3 : decode cX5_waitsBy 3 = .ok (.invokevirtual 114, 3) := by decide +kernel
theorem dX5_waitsBy_6 : decode cX5_waitsBy 6 = .ok (.aload_n 0, 1) := by decide +kernel
theorem dX5_waitsBy_7 : decode cX5_waitsBy 7 = .ok (.getfield 7, 3) := by decide +kernel
theorem dX5_waitsBy_10 : decode cX5_waitsBy 10 = .ok (.iconst 2, 1) := by decide +kernel
theorem dX5_waitsBy_11 : decode cX5_waitsBy 11 = .ok (.iload_n 1, 1) := by decide +kernel
theorem dX5_waitsBy_12 : decode cX5_waitsBy 12 = .ok (.iastore, 1) := by decide +kernel
theorem dX5_waitsBy_13 : decode cX5_waitsBy 13 = .ok (.aload_n 0, 1) := by decide +kernel
theorem dX5_waitsBy_14 : decode cX5_waitsBy 14 = .ok (.invokevirtual 306, 3) := by decide +kernel
theorem dX5_waitsBy_17 : decode cX5_waitsBy 17 = .ok (.istore_n 2, 1) := by decide +kernel
theorem dX5_waitsBy_18 : decode cX5_waitsBy 18 = .ok (.aload_n 0, 1) := by decide +kernel
theorem dX5_waitsBy_19 : decode cX5_waitsBy 19 = .ok (.invokevirtual 300, 3) := by decide +kernel
theorem dX5_waitsBy_22 : decode cX5_waitsBy 22 = .ok (.istore_n 3, 1) := by decide +kernel
theorem dX5_waitsBy_23 : decode cX5_waitsBy 23 = .ok (.aload_n 0, 1) := by decide +kernel
theorem dX5_waitsBy_24 : decode cX5_waitsBy 24 = .ok (.bipush 11, 2) := by decide +kernel
theorem dX5_waitsBy_26 : decode cX5_waitsBy 26 = .ok (.invokevirtual 249, 3) := by decide +kernel
theorem dX5_waitsBy_29 : decode cX5_waitsBy 29 = .ok (.iload_n 3, 1) := by decide +kernel
theorem dX5_waitsBy_30 : decode cX5_waitsBy 30 = .ok (.ireturn, 1) := by decide +kernel
theorem dX5_waitWithPolicy_0 : decode cX5_waitWithPolicy 0 = .ok (.aload_n 0, 1) := by decide +kernel
theorem dX5_waitWithPolicy_1 : decode cX5_waitWithPolicy 1 = .ok (.iconst 0, 1) := by decide +kernel
theorem dX5_waitWithPolicy_2 : decode cX5_waitWithPolicy 2 = .ok (.putfield 27, 3) := by decide +kernel
theorem dX5_waitWithPolicy_5 : decode cX5_waitWithPolicy 5 = .ok (.aload_n 0, 1) := by decide +kernel
theorem dX5_waitWithPolicy_6 : decode cX5_waitWithPolicy 6 = .ok (.iload_n 1, 1) := by decide +kernel
theorem dX5_waitWithPolicy_7 : decode cX5_waitWithPolicy 7 = .ok (.invokevirtual 274, 3) := by decide +kernel
theorem dX5_waitWithPolicy_10 : decode cX5_waitWithPolicy 10 = .ok (.ifCond .eq 7, 3) := by decide +kernel
theorem dX5_waitWithPolicy_13 : decode cX5_waitWithPolicy 13 = .ok (.iconst 0, 1) := by decide +kernel
theorem dX5_waitWithPolicy_14 : decode cX5_waitWithPolicy 14 = .ok (.goto 8, 3) := by decide +kernel
theorem dX5_waitWithPolicy_17 : decode cX5_waitWithPolicy 17 = .ok (.aload_n 0, 1) := by decide +kernel
theorem dX5_waitWithPolicy_18 : decode cX5_waitWithPolicy 18 = .ok (.iload_n 1, 1) := by decide +kernel
theorem dX5_waitWithPolicy_19 : decode cX5_waitWithPolicy 19 = .ok (.invokevirtual 309, 3) := by decide +kernel
theorem dX5_waitWithPolicy_22 : decode cX5_waitWithPolicy 22 = .ok (.ireturn, 1) := by decide +kernel
theorem dX5_longestWaitWithPolicy_0 : decode cX5_longestWaitWithPolicy 0 = .ok (.aload_n 0, 1) := by decide +kernel
theorem dX5_longestWaitWithPolicy_1 : decode cX5_longestWaitWithPolicy 1 = .ok (.iconst 0, 1) := by decide +kernel
theorem dX5_longestWaitWithPolicy_2 : decode cX5_longestWaitWithPolicy 2 = .ok (.putfield 27, 3) := by decide +kernel
theorem dX5_longestWaitWithPolicy_5 : decode cX5_longestWaitWithPolicy 5 = .ok (.aload_n 0, 1) := by decide +kernel
theorem dX5_longestWaitWithPolicy_6 : decode cX5_longestWaitWithPolicy 6 = .ok (.iload_n 1, 1) := by decide +kernel
theorem dX5_longestWaitWithPolicy_7 : decode cX5_longestWaitWithPolicy 7 = .ok (.invokevirtual 274, 3) := by decide +kernel
theorem dX5_longestWaitWithPolicy_10 : decode cX5_longestWaitWithPolicy 10 = .ok (.ifCond .eq 5, 3) := by decide +kernel
theorem dX5_longestWaitWithPolicy_13 : decode cX5_longestWaitWithPolicy 13 = .ok (.iconst 0, 1) := by decide +kernel
theorem dX5_longestWaitWithPolicy_14 : decode cX5_longestWaitWithPolicy 14 = .ok (.ireturn, 1) := by decide +kernel
theorem dX5_longestWaitWithPolicy_15 : decode cX5_longestWaitWithPolicy 15 = .ok (.aload_n 0, 1) := by decide +kernel
theorem dX5_longestWaitWithPolicy_16 : decode cX5_longestWaitWithPolicy 16 = .ok (.bipush 11, 2) := by decide +kernel
theorem dX5_longestWaitWithPolicy_18 : decode cX5_longestWaitWithPolicy 18 = .ok (.invokevirtual 114, 3) := by decide +kernel
theorem dX5_longestWaitWithPolicy_21 : decode cX5_longestWaitWithPolicy 21 = .ok (.aload_n 0, 1) := by decide +kernel
theorem dX5_longestWaitWithPolicy_22 : decode cX5_longestWaitWithPolicy 22 = .ok (.getfield 7, 3) := by decide +kernel
theorem dX5_longestWaitWithPolicy_25 : decode cX5_longestWaitWithPolicy 25 = .ok (.iconst 2, 1) := by decide +kernel
theorem dX5_longestWaitWithPolicy_26 : decode cX5_longestWaitWithPolicy 26 = .ok (.iload_n 1, 1) := by decide +kernel
theorem dX5_longestWaitWithPolicy_27 : decode cX5_longestWaitWithPolicy 27 = .ok (.iastore, 1) := by decide +kernel
theorem dX5_longestWaitWithPolicy_28 : decode cX5_longestWaitWithPolicy 28 = .ok (.aload_n 0, 1) := by decide +kernel
theorem dX5_longestWaitWithPolicy_29 : decode cX5_longestWaitWithPolicy 29 = .ok (.invokevirtual 306, 3) := by decide +kernel
theorem dX5_longestWaitWithPolicy_32 : decode cX5_longestWaitWithPolicy 32 = .ok (.istore_n 2, 1) := by decide +kernel
theorem dX5_longestWaitWithPolicy_33 : decode cX5_longestWaitWithPolicy 33 = .ok (.aload_n 0, 1) := by decide +kernel
theorem dX5_longestWaitWithPolicy_34 : decode cX5_longestWaitWithPolicy 34 = .ok (.invokevirtual 303, 3) := by decide +kernel
theorem dX5_longestWaitWithPolicy_37 : decode cX5_longestWaitWithPolicy 37 = .ok (.istore_n 3, 1) := by decide +kernel
theorem dX5_longestWaitWithPolicy_38 : decode cX5_longestWaitWithPolicy 38 = .ok (.aload_n 0, 1) := by decide +kernel
theorem dX5_longestWaitWithPolicy_39 : decode cX5_longestWaitWithPolicy 39 = .ok (.bipush 11, 2) := by decide +kernel
theorem dX5_longestWaitWithPolicy_41 : decode cX5_longestWaitWithPolicy 41 = .ok (.invokevirtual 249, 3) := by decide +kernel
theorem dX5_longestWaitWithPolicy_44 : decode cX5_longestWaitWithPolicy 44 = .ok (.iload_n 3, 1) := by decide +kernel
theorem dX5_longestWaitWithPolicy_45 : decode cX5_longestWaitWithPolicy 45 = .ok (.ireturn, 1) := by decide +kernel
theorem dX5_bestPolicy_0 : decode cX5_bestPolicy 0 = .ok (.aload_n 0, 1) := by decide +kernel
theorem dX5_bestPolicy_1 : decode cX5_bestPolicy 1 = .ok (.iconst 0, 1) := by decide +kernel
theorem dX5_bestPolicy_2 : decode cX5_bestPolicy 2 = .ok (.putfield 27, 3) := by decide +kernel
theorem dX5_bestPolicy_5 : decode cX5_bestPolicy 5 = .ok (.aload_n 0, 1) := by decide +kernel
theorem dX5_bestPolicy_6 : decode cX5_bestPolicy 6 = .ok (.iconst 0, 1) := by decide +kernel
theorem dX5_bestPolicy_7 : decode cX5_bestPolicy 7 = .ok (.invokevirtual 309, 3) := by decide +kernel
theorem dX5_bestPolicy_10 : decode cX5_bestPolicy 10 = .ok (.istore_n 1, 1) := by decide +kernel
theorem dX5_bestPolicy_11 : decode cX5_bestPolicy 11 = .ok (.aload_n 0, 1) := by decide +kernel
theorem dX5_bestPolicy_12 : decode cX5_bestPolicy 12 = .ok (.iconst 1, 1) := by decide +kernel
theorem dX5_bestPolicy_13 : decode cX5_bestPolicy 13 = .ok (.invokevirtual 309, 3) := by decide +kernel
theorem dX5_bestPolicy_16 : decode cX5_bestPolicy 16 = .ok (.istore_n 2, 1) := by decide +kernel
theorem dX5_bestPolicy_17 : decode cX5_bestPolicy 17 = .ok (.aload_n 0, 1) := by decide +kernel
theorem dX5_bestPolicy_18 : decode cX5_bestPolicy 18 = .ok (.iconst 2, 1) := by decide +kernel
theorem dX5_bestPolicy_19 : decode cX5_bestPolicy 19 = .ok (.invokevirtual 309, 3) := by decide +kernel
theorem dX5_bestPolicy_22 : decode cX5_bestPolicy 22 = .ok (.istore_n 3, 1) := by decide +kernel
theorem dX5_bestPolicy_23 : decode cX5_bestPolicy 23 = .ok (.iload_n 1, 1) := by decide +kernel
theorem dX5_bestPolicy_24 : decode cX5_bestPolicy 24 = .ok (.iload_n 2, 1) := by decide +kernel
theorem dX5_bestPolicy_25 : decode cX5_bestPolicy 25 = .ok (.if_icmp .gt 10, 3) := by decide +kernel
theorem dX5_bestPolicy_28 : decode cX5_bestPolicy 28 = .ok (.iload_n 1, 1) := by decide +kernel
theorem dX5_bestPolicy_29 : decode cX5_bestPolicy 29 = .ok (.iload_n 3, 1) := by decide +kernel
theorem dX5_bestPolicy_30 : decode cX5_bestPolicy 30 = .ok (.if_icmp .gt 5, 3) := by decide +kernel
theorem dX5_bestPolicy_33 : decode cX5_bestPolicy 33 = .ok (.iconst 0, 1) := by decide +kernel
theorem dX5_bestPolicy_34 : decode cX5_bestPolicy 34 = .ok (.ireturn, 1) := by decide +kernel
theorem dX5_bestPolicy_35 : decode cX5_bestPolicy 35 = .ok (.iload_n 2, 1) := by decide +kernel
theorem dX5_bestPolicy_36 : decode cX5_bestPolicy 36 = .ok (.iload_n 3, 1) := by decide +kernel
theorem dX5_bestPolicy_37 : decode cX5_bestPolicy 37 = .ok (.if_icmp .gt 7, 3) := by decide +kernel
theorem dX5_bestPolicy_40 : decode cX5_bestPolicy 40 = .ok (.iconst 1, 1) := by decide +kernel
theorem dX5_bestPolicy_41 : decode cX5_bestPolicy 41 = .ok (.goto 4, 3) := by decide +kernel
theorem dX5_bestPolicy_44 : decode cX5_bestPolicy 44 = .ok (.iconst 2, 1) := by decide +kernel
theorem dX5_bestPolicy_45 : decode cX5_bestPolicy 45 = .ok (.ireturn, 1) := by decide +kernel
theorem dX5_noCapacity_0 : decode cX5_noCapacity 0 = .ok (.aload_n 0, 1) := by decide +kernel
theorem dX5_noCapacity_1 : decode cX5_noCapacity 1 = .ok (.iload_n 1, 1) := by decide +kernel
theorem dX5_noCapacity_2 : decode cX5_noCapacity 2 = .ok (.iconst 1, 1) := by decide +kernel
theorem dX5_noCapacity_3 : decode cX5_noCapacity 3 = .ok (.bipush 8, 2) := by decide +kernel
theorem dX5_noCapacity_5 : decode cX5_noCapacity 5 = .ok (.invokestatic 63, 3) := by decide +kernel
theorem dX5_noCapacity_8 : decode cX5_noCapacity 8 = .ok (.ifCond .ne 7, 3) := by decide +kernel
theorem dX5_noCapacity_11 : decode cX5_noCapacity 11 = .ok (.iconst 1, 1) := by decide +kernel
theorem dX5_noCapacity_12 : decode cX5_noCapacity 12 = .ok (.goto 4, 3) := by decide +kernel
theorem dX5_noCapacity_15 : decode cX5_noCapacity 15 = .ok (.iconst 0, 1) := by decide +kernel
theorem dX5_noCapacity_16 : decode cX5_noCapacity 16 = .ok (.iconst 1, 1) := by decide +kernel
theorem dX5_noCapacity_17 : decode cX5_noCapacity 17 = .ok (.invokevirtual 270, 3) := by decide +kernel
theorem dX5_noCapacity_20 : decode cX5_noCapacity 20 = .ok (.ifCond .ne 25, 3) := by decide +kernel
theorem dX5_noCapacity_23 : decode cX5_noCapacity 23 = .ok (.aload_n 0, 1) := by decide +kernel
theorem dX5_noCapacity_24 : decode cX5_noCapacity 24 = .ok (.aload_n 0, 1) := by decide +kernel
theorem dX5_noCapacity_25 : decode cX5_noCapacity 25 = .ok (.iconst 2, 1) := by decide +kernel
theorem dX5_noCapacity_26 : decode cX5_noCapacity 26 = .ok (.invokevirtual 46, 3) := by decide +kernel
theorem dX5_noCapacity_29 : decode cX5_noCapacity 29 = .ok (.iload_n 1, 1) := by decide +kernel
theorem dX5_noCapacity_30 : decode cX5_noCapacity 30 = .ok (.if_icmp .le 7, 3) := by decide +kernel
theorem dX5_noCapacity_33 : decode cX5_noCapacity 33 = .ok (.iconst 1, 1) := by decide +kernel
theorem dX5_noCapacity_34 : decode cX5_noCapacity 34 = .ok (.goto 4, 3) := by decide +kernel
theorem dX5_noCapacity_37 : decode cX5_noCapacity 37 = .ok (.iconst 0, 1) := by decide +kernel
theorem dX5_noCapacity_38 : decode cX5_noCapacity 38 = .ok (.iconst 2, 1) := by decide +kernel
theorem dX5_noCapacity_39 : decode cX5_noCapacity 39 = .ok (.invokevirtual 270, 3) := by decide +kernel
theorem dX5_noCapacity_42 : decode cX5_noCapacity 42 = .ok (.ifCond .eq 7, 3) := by decide +kernel
theorem dX5_noCapacity_45 : decode cX5_noCapacity 45 = .ok (.iconst 1, 1) := by decide +kernel
theorem dX5_noCapacity_46 : decode cX5_noCapacity 46 = .ok (.goto 4, 3) := by decide +kernel
theorem dX5_noCapacity_49 : decode cX5_noCapacity 49 = .ok (.iconst 0, 1) := by decide +kernel
theorem dX5_noCapacity_50 : decode cX5_noCapacity 50 = .ok (.ireturn, 1) := by decide +kernel
theorem dX5_ticksWithCapacity_0 : decode cX5_ticksWithCapacity 0 = .ok (.aload_n 0, 1) := by decide +kernel
theorem dX5_ticksWithCapacity_1 : decode cX5_ticksWithCapacity 1 = .ok (.iconst 0, 1) := by decide +kernel
theorem dX5_ticksWithCapacity_2 : decode cX5_ticksWithCapacity 2 = .ok (.putfield 27, 3) := by decide +kernel
theorem dX5_ticksWithCapacity_5 : decode cX5_ticksWithCapacity 5 = .ok (.aload_n 0, 1) := by decide +kernel
theorem dX5_ticksWithCapacity_6 : decode cX5_ticksWithCapacity 6 = .ok (.iload_n 1, 1) := by decide +kernel
theorem dX5_ticksWithCapacity_7 : decode cX5_ticksWithCapacity 7 = .ok (.invokevirtual 312, 3) := by decide +kernel
theorem dX5_ticksWithCapacity_10 : decode cX5_ticksWithCapacity 10 = .ok (.ifCond .eq 5, 3) := by decide +kernel
theorem dX5_ticksWithCapacity_13 : decode cX5_ticksWithCapacity 13 = .ok (.iconst 0, 1) := by decide +kernel
theorem dX5_ticksWithCapacity_14 : decode cX5_ticksWithCapacity 14 = .ok (.ireturn, 1) := by decide +kernel
theorem dX5_ticksWithCapacity_15 : decode cX5_ticksWithCapacity 15 = .ok (.aload_n 0, 1) := by decide +kernel
theorem dX5_ticksWithCapacity_16 : decode cX5_ticksWithCapacity 16 = .ok (.bipush 11, 2) := by decide +kernel
theorem dX5_ticksWithCapacity_18 : decode cX5_ticksWithCapacity 18 = .ok (.invokevirtual 114, 3) := by decide +kernel
theorem dX5_ticksWithCapacity_21 : decode cX5_ticksWithCapacity 21 = .ok (.aload_n 0, 1) := by decide +kernel
theorem dX5_ticksWithCapacity_22 : decode cX5_ticksWithCapacity 22 = .ok (.getfield 7, 3) := by decide +kernel
theorem dX5_ticksWithCapacity_25 : decode cX5_ticksWithCapacity 25 = .ok (.iconst 1, 1) := by decide +kernel
theorem dX5_ticksWithCapacity_26 : decode cX5_ticksWithCapacity 26 = .ok (.iload_n 1, 1) := by decide +kernel
theorem dX5_ticksWithCapacity_27 : decode cX5_ticksWithCapacity 27 = .ok (.iastore, 1) := by decide +kernel
theorem dX5_ticksWithCapacity_28 : decode cX5_ticksWithCapacity 28 = .ok (.aload_n 0, 1) := by decide +kernel
theorem dX5_ticksWithCapacity_29 : decode cX5_ticksWithCapacity 29 = .ok (.invokevirtual 306, 3) := by decide +kernel
theorem dX5_ticksWithCapacity_32 : decode cX5_ticksWithCapacity 32 = .ok (.istore_n 2, 1) := by decide +kernel
theorem dX5_ticksWithCapacity_33 : decode cX5_ticksWithCapacity 33 = .ok (.aload_n 0, 1) := by decide +kernel
theorem dX5_ticksWithCapacity_34 : decode cX5_ticksWithCapacity 34 = .ok (.bipush 11, 2) := by decide +kernel
theorem dX5_ticksWithCapacity_36 : decode cX5_ticksWithCapacity 36 = .ok (.invokevirtual 249, 3) := by decide +kernel
theorem dX5_ticksWithCapacity_39 : decode cX5_ticksWithCapacity 39 = .ok (.iload_n 2, 1) := by decide +kernel
theorem dX5_ticksWithCapacity_40 : decode cX5_ticksWithCapacity 40 = .ok (.ireturn, 1) := by decide +kernel
theorem dX5_expectedAt_0 : decode cX5_expectedAt 0 = .ok (.aload_n 0, 1) := by decide +kernel
theorem dX5_expectedAt_1 : decode cX5_expectedAt 1 = .ok (.iconst 0, 1) := by decide +kernel
theorem dX5_expectedAt_2 : decode cX5_expectedAt 2 = .ok (.putfield 27, 3) := by decide +kernel
theorem dX5_expectedAt_5 : decode cX5_expectedAt 5 = .ok (.aload_n 0, 1) := by decide +kernel
theorem dX5_expectedAt_6 : decode cX5_expectedAt 6 = .ok (.iload_n 1, 1) := by decide +kernel
theorem dX5_expectedAt_7 : decode cX5_expectedAt 7 = .ok (.invokevirtual 277, 3) := by decide +kernel
theorem dX5_expectedAt_10 : decode cX5_expectedAt 10 = .ok (.ifCond .eq 5, 3) := by decide +kernel
theorem dX5_expectedAt_13 : decode cX5_expectedAt 13 = .ok (.iconst 0, 1) := by decide +kernel
theorem dX5_expectedAt_14 : decode cX5_expectedAt 14 = .ok (.ireturn, 1) := by decide +kernel
theorem dX5_expectedAt_15 : decode cX5_expectedAt 15 = .ok (.aload_n 0, 1) := by decide +kernel
theorem dX5_expectedAt_16 : decode cX5_expectedAt 16 = .ok (.bipush 11, 2) := by decide +kernel
theorem dX5_expectedAt_18 : decode cX5_expectedAt 18 = .ok (.invokevirtual 114, 3) := by decide +kernel
theorem dX5_expectedAt_21 : decode cX5_expectedAt 21 = .ok (.aload_n 0, 1) := by decide +kernel
theorem dX5_expectedAt_22 : decode cX5_expectedAt 22 = .ok (.invokevirtual 306, 3) := by decide +kernel
theorem dX5_expectedAt_25 : decode cX5_expectedAt 25 = .ok (.istore_n 2, 1) := by decide +kernel
theorem dX5_expectedAt_26 : decode cX5_expectedAt 26 = .ok (.aload_n 0, 1) := by decide +kernel
theorem dX5_expectedAt_27 : decode cX5_expectedAt 27 = .ok (.iload_n 1, 1) := by decide +kernel
theorem dX5_expectedAt_28 : decode cX5_expectedAt 28 = .ok (.invokevirtual 34, 3) := by decide +kernel
theorem dX5_expectedAt_31 : decode cX5_expectedAt 31 = .ok (.istore_n 3, 1) := by decide +kernel
theorem dX5_expectedAt_32 : decode cX5_expectedAt 32 = .ok (.aload_n 0, 1) := by decide +kernel
theorem dX5_expectedAt_33 : decode cX5_expectedAt 33 = .ok (.bipush 11, 2) := by decide +kernel
theorem dX5_expectedAt_35 : decode cX5_expectedAt 35 = .ok (.invokevirtual 249, 3) := by decide +kernel
theorem dX5_expectedAt_38 : decode cX5_expectedAt 38 = .ok (.iload_n 3, 1) := by decide +kernel
theorem dX5_expectedAt_39 : decode cX5_expectedAt 39 = .ok (.ireturn, 1) := by decide +kernel
theorem dX5_addPassenger_0 : decode cX5_addPassenger 0 = .ok (.aload_n 0, 1) := by decide +kernel
theorem dX5_addPassenger_1 : decode cX5_addPassenger 1 = .ok (.iconst 0, 1) := by decide +kernel
theorem dX5_addPassenger_2 : decode cX5_addPassenger 2 = .ok (.putfield 27, 3) := by decide +kernel
theorem dX5_addPassenger_5 : decode cX5_addPassenger 5 = .ok (.aload_n 0, 1) := by decide +kernel
theorem dX5_addPassenger_6 : decode cX5_addPassenger 6 = .ok (.iload_n 1, 1) := by decide +kernel
theorem dX5_addPassenger_7 : decode cX5_addPassenger 7 = .ok (.invokevirtual 286, 3) := by decide +kernel
theorem dX5_addPassenger_10 : decode cX5_addPassenger 10 = .ok (.ifCond .ne 70, 3) := by decide +kernel
theorem dX5_addPassenger_13 : decode cX5_addPassenger 13 = .ok (.aload_n 0, 1) := by decide +kernel
theorem dX5_addPassenger_14 : decode cX5_addPassenger 14 = .ok (.iload_n 2, 1) := by decide +kernel
theorem dX5_addPassenger_15 : decode cX5_addPassenger 15 = .ok (.invokevirtual 286, 3) := by decide +kernel
theorem dX5_addPassenger_18 : decode cX5_addPassenger 18 = .ok (.ifCond .ne 62, 3) := by decide +kernel
theorem dX5_addPassenger_21 : decode cX5_addPassenger 21 = .ok (.aload_n 0, 1) := by decide +kernel
theorem dX5_addPassenger_22 : decode cX5_addPassenger 22 = .ok (.iload_n 1, 1) := by decide +kernel
theorem dX5_addPassenger_23 : decode cX5_addPassenger 23 = .ok (.iload_n 2, 1) := by decide +kernel
theorem dX5_addPassenger_24 : decode cX5_addPassenger 24 = .ok (.if_icmp .eq 19, 3) := by decide +kernel
theorem dX5_addPassenger_27 : decode cX5_addPassenger 27 = .ok (.iload_n 3, 1) := by decide +kernel
theorem dX5_addPassenger_28 : decode cX5_addPassenger 28 = .ok (.aload_n 0, 1) := by decide +kernel
theorem dX5_addPassenger_29 : decode cX5_addPassenger 29 = .ok (.getfield 7, 3) := by decide +kernel
theorem dX5_addPassenger_32 : decode cX5_addPassenger 32 = .ok (.iconst 3, 1) := by decide +kernel
theorem dX5_addPassenger_33 : decode cX5_addPassenger 33 = .ok (.iaload, 1) := by decide +kernel
theorem dX5_addPassenger_34 : decode cX5_addPassenger 34 = .ok (.sipush 999, 3) := by decide +kernel
theorem dX5_addPassenger_37 : decode cX5_addPassenger 37 = .ok (.invokestatic 63, 3) := by decide +kernel
theorem dX5_addPassenger_40 : decode cX5_addPassenger 40 = .ok (.ifCond .ne 7, 3) := by decide +kernel
theorem dX5_addPassenger_43 : decode cX5_addPassenger 43 = .ok (.iconst 1, 1) := by decide +kernel
theorem dX5_addPassenger_44 : decode cX5_addPassenger 44 = .ok (.goto 4, 3) := by decide +kernel
theorem dX5_addPassenger_47 : decode cX5_addPassenger 47 = .ok (.iconst 0, 1) := by decide +kernel
theorem dX5_addPassenger_48 : decode cX5_addPassenger 48 = .ok (.iconst 2, 1) := by decide +kernel
theorem dX5_addPassenger_49 : decode cX5_addPassenger 49 = .ok (.invokevirtual 270, 3) := by decide +kernel
theorem dX5_addPassenger_52 : decode cX5_addPassenger 52 = .ok (.ifCond .ne 28, 3) := by decide +kernel
theorem dX5_addPassenger_55 : decode cX5_addPassenger 55 = .ok (.aload_n 0, 1) := by decide +kernel
theorem dX5_addPassenger_56 : decode cX5_addPassenger 56 = .ok (.aload_n 0, 1) := by decide +kernel
theorem dX5_addPassenger_57 : decode cX5_addPassenger 57 = .ok (.getfield 7, 3) := by decide +kernel
theorem dX5_addPassenger_60 : decode cX5_addPassenger 60 = .ok (.bipush 10, 2) := by decide +kernel
theorem dX5_addPassenger_62 : decode cX5_addPassenger 62 = .ok (.iaload, 1) := by decide +kernel
theorem dX5_addPassenger_63 : decode cX5_addPassenger 63 = .ok (.bipush 40, 2) := by decide +kernel
theorem dX5_addPassenger_65 : decode cX5_addPassenger 65 = .ok (.if_icmp .ne 7, 3) := by decide +kernel
theorem dX5_addPassenger_68 : decode cX5_addPassenger 68 = .ok (.iconst 1, 1) := by decide +kernel
theorem dX5_addPassenger_69 : decode cX5_addPassenger 69 = .ok (.goto 4, 3) := by decide +kernel
theorem dX5_addPassenger_72 : decode cX5_addPassenger 72 = .ok (.iconst 0, 1) := by decide +kernel
theorem dX5_addPassenger_73 : decode cX5_addPassenger 73 = .ok (.iconst 3, 1) := by decide +kernel
theorem dX5_addPassenger_74 : decode cX5_addPassenger 74 = .ok (.invokevirtual 270, 3) := by decide +kernel
theorem dX5_addPassenger_77 : decode cX5_addPassenger 77 = .ok (.ifCond .eq 5, 3) := by decide +kernel
theorem dX5_addPassenger_80 : decode cX5_addPassenger 80 = .ok (.iconst 0, 1) := by decide +kernel
theorem dX5_addPassenger_81 : decode cX5_addPassenger 81 = .ok (.ireturn, 1) := by decide +kernel
theorem dX5_addPassenger_82 : decode cX5_addPassenger 82 = .ok (.aload_n 0, 1) := by decide +kernel
theorem dX5_addPassenger_83 : decode cX5_addPassenger 83 = .ok (.invokevirtual 267, 3) := by decide +kernel
theorem dX5_addPassenger_86 : decode cX5_addPassenger 86 = .ok (.aload_n 0, 1) := by decide +kernel
theorem dX5_addPassenger_87 : decode cX5_addPassenger 87 = .ok (.iload_n 1, 1) := by decide +kernel
theorem dX5_addPassenger_88 : decode cX5_addPassenger 88 = .ok (.iload_n 2, 1) := by decide +kernel
theorem dX5_addPassenger_89 : decode cX5_addPassenger 89 = .ok (.iload_n 3, 1) := by decide +kernel
theorem dX5_addPassenger_90 : decode cX5_addPassenger 90 = .ok (.invokevirtual 173, 3) := by decide +kernel
theorem dX5_addPassenger_93 : decode cX5_addPassenger 93 = .ok (.aload_n 0, 1) := by decide +kernel
theorem dX5_addPassenger_94 : decode cX5_addPassenger 94 = .ok (.getfield 7, 3) := by decide +kernel
theorem dX5_addPassenger_97 : decode cX5_addPassenger 97 = .ok (.bipush 10, 2) := by decide +kernel
theorem dX5_addPassenger_99 : decode cX5_addPassenger 99 = .ok (.iaload, 1) := by decide +kernel
theorem dX5_addPassenger_100 : decode cX5_addPassenger 100 = .ok (.iconst 1, 1) := by decide +kernel
theorem dX5_addPassenger_101 : decode cX5_addPassenger 101 = .ok (.isub, 1) := by decide +kernel
theorem dX5_addPassenger_102 : decode cX5_addPassenger 102 = .ok (.ireturn, 1) := by decide +kernel
theorem dX5_run_0 : decode cX5_run 0 = .ok (.aload_n 0, 1) := by decide +kernel
theorem dX5_run_1 : decode cX5_run 1 = .ok (.iconst 0, 1) := by decide +kernel
theorem dX5_run_2 : decode cX5_run 2 = .ok (.putfield 27, 3) := by decide +kernel
theorem dX5_run_5 : decode cX5_run 5 = .ok (.aload_n 0, 1) := by decide +kernel
theorem dX5_run_6 : decode cX5_run 6 = .ok (.iload_n 1, 1) := by decide +kernel
theorem dX5_run_7 : decode cX5_run 7 = .ok (.iconst 1, 1) := by decide +kernel
theorem dX5_run_8 : decode cX5_run 8 = .ok (.sipush 999, 3) := by decide +kernel
theorem dX5_run_11 : decode cX5_run 11 = .ok (.invokestatic 63, 3) := by decide +kernel
theorem dX5_run_14 : decode cX5_run 14 = .ok (.ifCond .ne 7, 3) := by decide +kernel
theorem dX5_run_17 : decode cX5_run 17 = .ok (.iconst 1, 1) := by decide +kernel
theorem dX5_run_18 : decode cX5_run 18 = .ok (.goto 4, 3) := by decide +kernel
theorem dX5_run_21 : decode cX5_run 21 = .ok (.iconst 0, 1) := by decide +kernel
theorem dX5_run_22 : decode cX5_run 22 = .ok (.iconst 1, 1) := by decide +kernel
theorem dX5_run_23 : decode cX5_run 23 = .ok (.invokevirtual 270, 3) := by decide +kernel
theorem dX5_run_26 : decode cX5_run 26 = .ok (.ifCond .ne 30, 3) := by decide +kernel
theorem dX5_run_29 : decode cX5_run 29 = .ok (.aload_n 0, 1) := by decide +kernel
theorem dX5_run_30 : decode cX5_run 30 = .ok (.aload_n 0, 1) := by decide +kernel
theorem dX5_run_31 : decode cX5_run 31 = .ok (.getfield 7, 3) := by decide +kernel
theorem dX5_run_34 : decode cX5_run 34 = .ok (.iconst 3, 1) := by decide +kernel
theorem dX5_run_35 : decode cX5_run 35 = .ok (.iaload, 1) := by decide +kernel
theorem dX5_run_36 : decode cX5_run 36 = .ok (.iload_n 1, 1) := by decide +kernel
theorem dX5_run_37 : decode cX5_run 37 = .ok (.iadd, 1) := by decide +kernel
theorem dX5_run_38 : decode cX5_run 38 = .ok (.sipush 999, 3) := by decide +kernel
theorem dX5_run_41 : decode cX5_run 41 = .ok (.if_icmp .le 7, 3) := by decide +kernel
theorem dX5_run_44 : decode cX5_run 44 = .ok (.iconst 1, 1) := by decide +kernel
theorem dX5_run_45 : decode cX5_run 45 = .ok (.goto 4, 3) := by decide +kernel
theorem dX5_run_48 : decode cX5_run 48 = .ok (.iconst 0, 1) := by decide +kernel
theorem dX5_run_49 : decode cX5_run 49 = .ok (.iconst 2, 1) := by decide +kernel
theorem dX5_run_50 : decode cX5_run 50 = .ok (.invokevirtual 270, 3) := by decide +kernel
theorem dX5_run_53 : decode cX5_run 53 = .ok (.ifCond .eq 5, 3) := by decide +kernel
theorem dX5_run_56 : decode cX5_run 56 = .ok (.iconst 0, 1) := by decide +kernel
theorem dX5_run_57 : decode cX5_run 57 = .ok (.ireturn, 1) := by decide +kernel
theorem dX5_run_58 : decode cX5_run 58 = .ok (.aload_n 0, 1) := by decide +kernel
theorem dX5_run_59 : decode cX5_run 59 = .ok (.invokevirtual 267, 3) := by decide +kernel
theorem dX5_run_62 : decode cX5_run 62 = .ok (.iconst 0, 1) := by decide +kernel
theorem dX5_run_63 : decode cX5_run 63 = .ok (.istore_n 2, 1) := by decide +kernel
theorem dX5_run_64 : decode cX5_run 64 = .ok (.iload_n 2, 1) := by decide +kernel
theorem dX5_run_65 : decode cX5_run 65 = .ok (.iload_n 1, 1) := by decide +kernel
theorem dX5_run_66 : decode cX5_run 66 = .ok (.if_icmp .ge 13, 3) := by decide +kernel
theorem dX5_run_69 : decode cX5_run 69 = .ok (.aload_n 0, 1) := by decide +kernel
theorem dX5_run_70 : decode cX5_run 70 = .ok (.invokevirtual 104, 3) := by decide +kernel
theorem dX5_run_73 : decode cX5_run 73 = .ok (.iinc 2 1, 3) := by decide +kernel
theorem dX5_run_76 : decode cX5_run 76 = .ok (.goto (-12), 3) := by decide +kernel
theorem dX5_run_79 : decode cX5_run 79 = .ok (.aload_n 0, 1) := by decide +kernel
theorem dX5_run_80 : decode cX5_run 80 = .ok (.getfield 7, 3) := by decide +kernel
theorem dX5_run_83 : decode cX5_run 83 = .ok (.iconst 4, 1) := by decide +kernel
theorem dX5_run_84 : decode cX5_run 84 = .ok (.iaload, 1) := by decide +kernel
theorem dX5_run_85 : decode cX5_run 85 = .ok (.ireturn, 1) := by decide +kernel
theorem dX5_runToEnd_0 : decode cX5_runToEnd 0 = .ok (.aload_n 0, 1) := by decide +kernel
theorem dX5_runToEnd_1 : decode cX5_runToEnd 1 = .ok (.iconst 0, 1) := by decide +kernel
theorem dX5_runToEnd_2 : decode cX5_runToEnd 2 = .ok (.putfield 27, 3) := by decide +kernel
theorem dX5_runToEnd_5 : decode cX5_runToEnd 5 = .ok (.aload_n 0, 1) := by decide +kernel
theorem dX5_runToEnd_6 : decode cX5_runToEnd 6 = .ok (.invokevirtual 267, 3) := by decide +kernel
theorem dX5_runToEnd_9 : decode cX5_runToEnd 9 = .ok (.aload_n 0, 1) := by decide +kernel
theorem dX5_runToEnd_10 : decode cX5_runToEnd 10 = .ok (.sipush 999, 3) := by decide +kernel
theorem dX5_runToEnd_13 : decode cX5_runToEnd 13 = .ok (.invokevirtual 108, 3) := by decide +kernel
theorem dX5_runToEnd_16 : decode cX5_runToEnd 16 = .ok (.ireturn, 1) := by decide +kernel
theorem dX5_setPolicy_0 : decode cX5_setPolicy 0 = .ok (.aload_n 0, 1) := by decide +kernel
theorem dX5_setPolicy_1 : decode cX5_setPolicy 1 = .ok (.iconst 0, 1) := by decide +kernel
theorem dX5_setPolicy_2 : decode cX5_setPolicy 2 = .ok (.putfield 27, 3) := by decide +kernel
theorem dX5_setPolicy_5 : decode cX5_setPolicy 5 = .ok (.aload_n 0, 1) := by decide +kernel
theorem dX5_setPolicy_6 : decode cX5_setPolicy 6 = .ok (.iload_n 1, 1) := by decide +kernel
theorem dX5_setPolicy_7 : decode cX5_setPolicy 7 = .ok (.invokevirtual 274, 3) := by decide +kernel
theorem dX5_setPolicy_10 : decode cX5_setPolicy 10 = .ok (.ifCond .eq 5, 3) := by decide +kernel
theorem dX5_setPolicy_13 : decode cX5_setPolicy 13 = .ok (.iconst 0, 1) := by decide +kernel
theorem dX5_setPolicy_14 : decode cX5_setPolicy 14 = .ok (.ireturn, 1) := by decide +kernel
theorem dX5_setPolicy_15 : decode cX5_setPolicy 15 = .ok (.aload_n 0, 1) := by decide +kernel
theorem dX5_setPolicy_16 : decode cX5_setPolicy 16 = .ok (.invokevirtual 267, 3) := by decide +kernel
theorem dX5_setPolicy_19 : decode cX5_setPolicy 19 = .ok (.aload_n 0, 1) := by decide +kernel
theorem dX5_setPolicy_20 : decode cX5_setPolicy 20 = .ok (.getfield 7, 3) := by decide +kernel
theorem dX5_setPolicy_23 : decode cX5_setPolicy 23 = .ok (.iconst 2, 1) := by decide +kernel
theorem dX5_setPolicy_24 : decode cX5_setPolicy 24 = .ok (.iaload, 1) := by decide +kernel
theorem dX5_setPolicy_25 : decode cX5_setPolicy 25 = .ok (.istore_n 2, 1) := by decide +kernel
theorem dX5_setPolicy_26 : decode cX5_setPolicy 26 = .ok (.aload_n 0, 1) := by decide +kernel
theorem dX5_setPolicy_27 : decode cX5_setPolicy 27 = .ok (.getfield 7, 3) := by decide +kernel
theorem dX5_setPolicy_30 : decode cX5_setPolicy 30 = .ok (.iconst 2, 1) := by decide +kernel
theorem dX5_setPolicy_31 : decode cX5_setPolicy 31 = .ok (.iload_n 1, 1) := by decide +kernel
theorem dX5_setPolicy_32 : decode cX5_setPolicy 32 = .ok (.iastore, 1) := by decide +kernel
theorem dX5_setPolicy_33 : decode cX5_setPolicy 33 = .ok (.iload_n 2, 1) := by decide +kernel
theorem dX5_setPolicy_34 : decode cX5_setPolicy 34 = .ok (.ireturn, 1) := by decide +kernel
theorem dX5_setCapacity_0 : decode cX5_setCapacity 0 = .ok (.aload_n 0, 1) := by decide +kernel
theorem dX5_setCapacity_1 : decode cX5_setCapacity 1 = .ok (.iconst 0, 1) := by decide +kernel
theorem dX5_setCapacity_2 : decode cX5_setCapacity 2 = .ok (.putfield 27, 3) := by decide +kernel
theorem dX5_setCapacity_5 : decode cX5_setCapacity 5 = .ok (.aload_n 0, 1) := by decide +kernel
theorem dX5_setCapacity_6 : decode cX5_setCapacity 6 = .ok (.iload_n 1, 1) := by decide +kernel
theorem dX5_setCapacity_7 : decode cX5_setCapacity 7 = .ok (.invokevirtual 312, 3) := by decide +kernel
theorem dX5_setCapacity_10 : decode cX5_setCapacity 10 = .ok (.ifCond .eq 5, 3) := by decide +kernel
theorem dX5_setCapacity_13 : decode cX5_setCapacity 13 = .ok (.iconst 0, 1) := by decide +kernel
theorem dX5_setCapacity_14 : decode cX5_setCapacity 14 = .ok (.ireturn, 1) := by decide +kernel
theorem dX5_setCapacity_15 : decode cX5_setCapacity 15 = .ok (.aload_n 0, 1) := by decide +kernel
theorem dX5_setCapacity_16 : decode cX5_setCapacity 16 = .ok (.invokevirtual 267, 3) := by decide +kernel
theorem dX5_setCapacity_19 : decode cX5_setCapacity 19 = .ok (.aload_n 0, 1) := by decide +kernel
theorem dX5_setCapacity_20 : decode cX5_setCapacity 20 = .ok (.getfield 7, 3) := by decide +kernel
theorem dX5_setCapacity_23 : decode cX5_setCapacity 23 = .ok (.iconst 1, 1) := by decide +kernel
theorem dX5_setCapacity_24 : decode cX5_setCapacity 24 = .ok (.iaload, 1) := by decide +kernel
theorem dX5_setCapacity_25 : decode cX5_setCapacity 25 = .ok (.istore_n 2, 1) := by decide +kernel
theorem dX5_setCapacity_26 : decode cX5_setCapacity 26 = .ok (.aload_n 0, 1) := by decide +kernel
theorem dX5_setCapacity_27 : decode cX5_setCapacity 27 = .ok (.getfield 7, 3) := by decide +kernel
theorem dX5_setCapacity_30 : decode cX5_setCapacity 30 = .ok (.iconst 1, 1) := by decide +kernel
theorem dX5_setCapacity_31 : decode cX5_setCapacity 31 = .ok (.iload_n 1, 1) := by decide +kernel
theorem dX5_setCapacity_32 : decode cX5_setCapacity 32 = .ok (.iastore, 1) := by decide +kernel
theorem dX5_setCapacity_33 : decode cX5_setCapacity 33 = .ok (.iload_n 2, 1) := by decide +kernel
theorem dX5_setCapacity_34 : decode cX5_setCapacity 34 = .ok (.ireturn, 1) := by decide +kernel
theorem dX5_undo_0 : decode cX5_undo 0 = .ok (.aload_n 0, 1) := by decide +kernel
theorem dX5_undo_1 : decode cX5_undo 1 = .ok (.iconst 0, 1) := by decide +kernel
theorem dX5_undo_2 : decode cX5_undo 2 = .ok (.putfield 27, 3) := by decide +kernel
theorem dX5_undo_5 : decode cX5_undo 5 = .ok (.aload_n 0, 1) := by decide +kernel
theorem dX5_undo_6 : decode cX5_undo 6 = .ok (.aload_n 0, 1) := by decide +kernel
theorem dX5_undo_7 : decode cX5_undo 7 = .ok (.getfield 111, 3) := by decide +kernel
theorem dX5_undo_10 : decode cX5_undo 10 = .ok (.ifCond .ne 7, 3) := by decide +kernel
theorem dX5_undo_13 : decode cX5_undo 13 = .ok (.iconst 1, 1) := by decide +kernel
theorem dX5_undo_14 : decode cX5_undo 14 = .ok (.goto 4, 3) := by decide +kernel
theorem dX5_undo_17 : decode cX5_undo 17 = .ok (.iconst 0, 1) := by decide +kernel
theorem dX5_undo_18 : decode cX5_undo 18 = .ok (.iconst 1, 1) := by decide +kernel
theorem dX5_undo_19 : decode cX5_undo 19 = .ok (.invokevirtual 270, 3) := by decide +kernel
theorem dX5_undo_22 : decode cX5_undo 22 = .ok (.ifCond .eq 5, 3) := by decide +kernel
theorem dX5_undo_25 : decode cX5_undo 25 = .ok (.iconst 0, 1) := by decide +kernel
theorem dX5_undo_26 : decode cX5_undo 26 = .ok (.ireturn, 1) := by decide +kernel
theorem dX5_undo_27 : decode cX5_undo 27 = .ok (.aload_n 0, 1) := by decide +kernel
theorem dX5_undo_28 : decode cX5_undo 28 = .ok (.dup, 1) := by decide +kernel
theorem dX5_undo_29 : decode cX5_undo 29 = .ok (.getfield 111, 3) := by decide +kernel
theorem dX5_undo_32 : decode cX5_undo 32 = .ok (.iconst 1, 1) := by decide +kernel
theorem dX5_undo_33 : decode cX5_undo 33 = .ok (.isub, 1) := by decide +kernel
theorem dX5_undo_34 : decode cX5_undo 34 = .ok (.putfield 111, 3) := by decide +kernel
theorem dX5_undo_37 : decode cX5_undo 37 = .ok (.aload_n 0, 1) := by decide +kernel
theorem dX5_undo_38 : decode cX5_undo 38 = .ok (.aload_n 0, 1) := by decide +kernel
theorem dX5_undo_39 : decode cX5_undo 39 = .ok (.getfield 111, 3) := by decide +kernel
theorem dX5_undo_42 : decode cX5_undo 42 = .ok (.invokevirtual 249, 3) := by decide +kernel
theorem dX5_undo_45 : decode cX5_undo 45 = .ok (.aload_n 0, 1) := by decide +kernel
theorem dX5_undo_46 : decode cX5_undo 46 = .ok (.getfield 111, 3) := by decide +kernel
theorem dX5_undo_49 : decode cX5_undo 49 = .ok (.ireturn, 1) := by decide +kernel
theorem dX5_undoDepth_0 : decode cX5_undoDepth 0 = .ok (.aload_n 0, 1) := by decide +kernel
theorem dX5_undoDepth_1 : decode cX5_undoDepth 1 = .ok (.iconst 0, 1) := by decide +kernel
theorem dX5_undoDepth_2 : decode cX5_undoDepth 2 = .ok (.putfield 27, 3) := by decide +kernel
theorem dX5_undoDepth_5 : decode cX5_undoDepth 5 = .ok (.aload_n 0, 1) := by decide +kernel
theorem dX5_undoDepth_6 : decode cX5_undoDepth 6 = .ok (.getfield 111, 3) := by decide +kernel
theorem dX5_undoDepth_9 : decode cX5_undoDepth 9 = .ok (.ireturn, 1) := by decide +kernel
theorem dX5_save_0 : decode cX5_save 0 = .ok (.aload_n 0, 1) := by decide +kernel
theorem dX5_save_1 : decode cX5_save 1 = .ok (.iconst 0, 1) := by decide +kernel
theorem dX5_save_2 : decode cX5_save 2 = .ok (.putfield 27, 3) := by decide +kernel
theorem dX5_save_5 : decode cX5_save 5 = .ok (.aload_n 0, 1) := by decide +kernel
theorem dX5_save_6 : decode cX5_save 6 = .ok (.iload_n 1, 1) := by decide +kernel
theorem dX5_save_7 : decode cX5_save 7 = .ok (.iconst 0, 1) := by decide +kernel
theorem dX5_save_8 : decode cX5_save 8 = .ok (.iconst 1, 1) := by decide +kernel
theorem dX5_save_9 : decode cX5_save 9 = .ok (.invokestatic 63, 3) := by decide +kernel
theorem dX5_save_12 : decode cX5_save 12 = .ok (.ifCond .ne 7, 3) := by decide +kernel
theorem dX5_save_15 : decode cX5_save 15 = .ok (.iconst 1, 1) := by decide +kernel
theorem dX5_save_16 : decode cX5_save 16 = .ok (.goto 4, 3) := by decide +kernel
theorem dX5_save_19 : decode cX5_save 19 = .ok (.iconst 0, 1) := by decide +kernel
theorem dX5_save_20 : decode cX5_save 20 = .ok (.iconst 1, 1) := by decide +kernel
theorem dX5_save_21 : decode cX5_save 21 = .ok (.invokevirtual 270, 3) := by decide +kernel
theorem dX5_save_24 : decode cX5_save 24 = .ok (.ifCond .eq 5, 3) := by decide +kernel
theorem dX5_save_27 : decode cX5_save 27 = .ok (.iconst 0, 1) := by decide +kernel
theorem dX5_save_28 : decode cX5_save 28 = .ok (.ireturn, 1) := by decide +kernel
theorem dX5_save_29 : decode cX5_save 29 = .ok (.iload_n 1, 1) := by decide +kernel
theorem dX5_save_30 : decode cX5_save 30 = .ok (.ifCond .ne 10, 3) := by decide +kernel
theorem dX5_save_33 : decode cX5_save 33 = .ok (.aload_n 0, 1) := by decide +kernel
theorem dX5_save_34 : decode cX5_save 34 = .ok (.getfield 260, 3) := by decide +kernel
theorem dX5_save_37 : decode cX5_save 37 = .ok (.goto 7, 3) := by decide +kernel
theorem dX5_save_40 : decode cX5_save 40 = .ok (.aload_n 0, 1) := by decide +kernel
theorem dX5_save_41 : decode cX5_save 41 = .ok (.getfield 264, 3) := by decide +kernel
theorem dX5_save_44 : decode cX5_save 44 = .ok (.istore_n 2, 1) := by decide +kernel
theorem dX5_save_45 : decode cX5_save 45 = .ok (.aload_n 0, 1) := by decide +kernel
theorem dX5_save_46 : decode cX5_save 46 = .ok (.bipush 8, 2) := by decide +kernel
theorem dX5_save_48 : decode cX5_save 48 = .ok (.iload_n 1, 1) := by decide +kernel
theorem dX5_save_49 : decode cX5_save 49 = .ok (.iadd, 1) := by decide +kernel
theorem dX5_save_50 : decode cX5_save 50 = .ok (.invokevirtual 114, 3) := by decide +kernel
theorem dX5_save_53 : decode cX5_save 53 = .ok (.aload_n 0, 1) := by decide +kernel
theorem dX5_save_54 : decode cX5_save 54 = .ok (.aload_n 0, 1) := by decide +kernel
theorem dX5_save_55 : decode cX5_save 55 = .ok (.getfield 260, 3) := by decide +kernel
theorem dX5_save_58 : decode cX5_save 58 = .ok (.ifCond .ne 7, 3) := by decide +kernel
theorem dX5_save_61 : decode cX5_save 61 = .ok (.iload_n 1, 1) := by decide +kernel
theorem dX5_save_62 : decode cX5_save 62 = .ok (.ifCond .ne 7, 3) := by decide +kernel
theorem dX5_save_65 : decode cX5_save 65 = .ok (.iconst 1, 1) := by decide +kernel
theorem dX5_save_66 : decode cX5_save 66 = .ok (.goto 4, 3) := by decide +kernel
theorem dX5_save_69 : decode cX5_save 69 = .ok (.iconst 0, 1) := by decide +kernel
theorem dX5_save_70 : decode cX5_save 70 = .ok (.putfield 260, 3) := by decide +kernel
theorem dX5_save_73 : decode cX5_save 73 = .ok (.aload_n 0, 1) := by decide +kernel
theorem dX5_save_74 : decode cX5_save 74 = .ok (.aload_n 0, 1) := by decide +kernel
theorem dX5_save_75 : decode cX5_save 75 = .ok (.getfield 264, 3) := by decide +kernel
theorem dX5_save_78 : decode cX5_save 78 = .ok (.ifCond .ne 8, 3) := by decide +kernel
theorem dX5_save_81 : decode cX5_save 81 = .ok (.iload_n 1, 1) := by decide +kernel
theorem dX5_save_82 : decode cX5_save 82 = .ok (.iconst 1, 1) := by decide +kernel
theorem dX5_save_83 : decode cX5_save 83 = .ok (.if_icmp .ne 7, 3) := by decide +kernel
theorem dX5_save_86 : decode cX5_save 86 = .ok (.iconst 1, 1) := by decide +kernel
theorem dX5_save_87 : decode cX5_save 87 = .ok (.goto 4, 3) := by decide +kernel
theorem dX5_save_90 : decode cX5_save 90 = .ok (.iconst 0, 1) := by decide +kernel
theorem dX5_save_91 : decode cX5_save 91 = .ok (.putfield 264, 3) := by decide +kernel
theorem dX5_save_94 : decode cX5_save 94 = .ok (.iload_n 2, 1) := by decide +kernel
theorem dX5_save_95 : decode cX5_save 95 = .ok (.ifCond .ne 7, 3) := by decide +kernel
theorem dX5_save_98 : decode cX5_save 98 = .ok (.iconst 1, 1) := by decide +kernel
theorem dX5_save_99 : decode cX5_save 99 = .ok (.goto 4, 3) := by decide +kernel
theorem dX5_save_102 : decode cX5_save 102 = .ok (.iconst 0, 1) := by decide +kernel
theorem dX5_save_103 : decode cX5_save 103 = .ok (.ireturn, 1) := by decide +kernel
theorem dX5_restore_0 : decode cX5_restore 0 = .ok (.aload_n 0, 1) := by decide +kernel
theorem dX5_restore_1 : decode cX5_restore 1 = .ok (.iconst 0, 1) := by decide +kernel
theorem dX5_restore_2 : decode cX5_restore 2 = .ok (.putfield 27, 3) := by decide +kernel
theorem dX5_restore_5 : decode cX5_restore 5 = .ok (.aload_n 0, 1) := by decide +kernel
theorem dX5_restore_6 : decode cX5_restore 6 = .ok (.iload_n 1, 1) := by decide +kernel
theorem dX5_restore_7 : decode cX5_restore 7 = .ok (.iconst 0, 1) := by decide +kernel
theorem dX5_restore_8 : decode cX5_restore 8 = .ok (.iconst 1, 1) := by decide +kernel
theorem dX5_restore_9 : decode cX5_restore 9 = .ok (.invokestatic 63, 3) := by decide +kernel
theorem dX5_restore_12 : decode cX5_restore 12 = .ok (.ifCond .ne 7, 3) := by decide +kernel
theorem dX5_restore_15 : decode cX5_restore 15 = .ok (.iconst 1, 1) := by decide +kernel
theorem dX5_restore_16 : decode cX5_restore 16 = .ok (.goto 4, 3) := by decide +kernel
theorem dX5_restore_19 : decode cX5_restore 19 = .ok (.iconst 0, 1) := by decide +kernel
theorem dX5_restore_20 : decode cX5_restore 20 = .ok (.iconst 1, 1) := by decide +kernel
theorem dX5_restore_21 : decode cX5_restore 21 = .ok (.invokevirtual 270, 3) := by decide +kernel
theorem dX5_restore_24 : decode cX5_restore 24 = .ok (.ifCond .ne 42, 3) := by decide +kernel
theorem dX5_restore_27 : decode cX5_restore 27 = .ok (.aload_n 0, 1) := by decide +kernel
theorem dX5_restore_28 : decode cX5_restore 28 = .ok (.iload_n 1, 1) := by decide +kernel
theorem dX5_restore_29 : decode cX5_restore 29 = .ok (.ifCond .ne 18, 3) := by decide +kernel
theorem dX5_restore_32 : decode cX5_restore 32 = .ok (.aload_n 0, 1) := by decide +kernel
theorem dX5_restore_33 : decode cX5_restore 33 = .ok (.getfield 260, 3) := by decide +kernel
theorem dX5_restore_36 : decode cX5_restore 36 = .ok (.ifCond .ne 7, 3) := by decide +kernel
theorem dX5_restore_39 : decode cX5_restore 39 = .ok (.iconst 1, 1) := by decide +kernel
theorem dX5_restore_40 : decode cX5_restore 40 = .ok (.goto 19, 3) := by decide +kernel
theorem dX5_restore_43 : decode cX5_restore 43 = .ok (.iconst 0, 1) := by decide +kernel
theorem dX5_restore_44 : decode cX5_restore 44 = .ok (.goto 15, 3) := by decide +kernel
theorem dX5_restore_47 : decode cX5_restore 47 = .ok (.aload_n 0, 1) := by decide +kernel
theorem dX5_restore_48 : decode cX5_restore 48 = .ok (.getfield 264, 3) := by decide +kernel
theorem dX5_restore_51 : decode cX5_restore 51 = .ok (.ifCond .ne 7, 3) := by decide +kernel
theorem dX5_restore_54 : decode cX5_restore 54 = .ok (.iconst 1, 1) := by decide +kernel
theorem dX5_restore_55 : decode cX5_restore 55 = .ok (.goto 4, 3) := by decide +kernel
theorem dX5_restore_58 : decode cX5_restore 58 = .ok (.iconst 0, 1) := by decide +kernel
theorem dX5_restore_59 : decode cX5_restore 59 = .ok (.iconst 2, 1) := by decide +kernel
theorem dX5_restore_60 : decode cX5_restore 60 = .ok (.invokevirtual 270, 3) := by decide +kernel
theorem dX5_restore_63 : decode cX5_restore 63 = .ok (.ifCond .eq 5, 3) := by decide +kernel
theorem dX5_restore_66 : decode cX5_restore 66 = .ok (.iconst 0, 1) := by decide +kernel
theorem dX5_restore_67 : decode cX5_restore 67 = .ok (.ireturn, 1) := by decide +kernel
theorem dX5_restore_68 : decode cX5_restore 68 = .ok (.aload_n 0, 1) := by decide +kernel
theorem dX5_restore_69 : decode cX5_restore 69 = .ok (.bipush 8, 2) := by decide +kernel
theorem dX5_restore_71 : decode cX5_restore 71 = .ok (.iload_n 1, 1) := by decide +kernel
theorem dX5_restore_72 : decode cX5_restore 72 = .ok (.iadd, 1) := by decide +kernel
theorem dX5_restore_73 : decode cX5_restore 73 = .ok (.invokevirtual 249, 3) := by decide +kernel
theorem dX5_restore_76 : decode cX5_restore 76 = .ok (.aload_n 0, 1) := by decide +kernel
theorem dX5_restore_77 : decode cX5_restore 77 = .ok (.iconst 0, 1) := by decide +kernel
theorem dX5_restore_78 : decode cX5_restore 78 = .ok (.putfield 111, 3) := by decide +kernel
theorem dX5_restore_81 : decode cX5_restore 81 = .ok (.aload_n 0, 1) := by decide +kernel
theorem dX5_restore_82 : decode cX5_restore 82 = .ok (.getfield 7, 3) := by decide +kernel
theorem dX5_restore_85 : decode cX5_restore 85 = .ok (.iconst 3, 1) := by decide +kernel
theorem dX5_restore_86 : decode cX5_restore 86 = .ok (.iaload, 1) := by decide +kernel
theorem dX5_restore_87 : decode cX5_restore 87 = .ok (.ireturn, 1) := by decide +kernel
theorem dX5_write_0 : decode cX5_write 0 = .ok (.aload_n 0, 1) := by decide +kernel
theorem dX5_write_1 : decode cX5_write 1 = .ok (.getfield 24, 3) := by decide +kernel
theorem dX5_write_4 : decode cX5_write 4 = .ok (.aload_n 0, 1) := by decide +kernel
theorem dX5_write_5 : decode cX5_write 5 = .ok (.getfield 315, 3) := by decide +kernel
theorem dX5_write_8 : decode cX5_write 8 = .ok (.iload_n 1, 1) := by decide +kernel
theorem dX5_write_9 : decode cX5_write 9 = .ok (.i2b, 1) := by decide +kernel
theorem dX5_write_10 : decode cX5_write 10 = .ok (.bastore, 1) := by decide +kernel
theorem dX5_write_11 : decode cX5_write 11 = .ok (.aload_n 0, 1) := by decide +kernel
theorem dX5_write_12 : decode cX5_write 12 = .ok (.dup, 1) := by decide +kernel
theorem dX5_write_13 : decode cX5_write 13 = .ok (.getfield 315, 3) := by decide +kernel
theorem dX5_write_16 : decode cX5_write 16 = .ok (.iconst 1, 1) := by decide +kernel
theorem dX5_write_17 : decode cX5_write 17 = .ok (.iadd, 1) := by decide +kernel
theorem dX5_write_18 : decode cX5_write 18 = .ok (.putfield 315, 3) := by decide +kernel
theorem dX5_write_21 : decode cX5_write 21 = .ok (.return_, 1) := by decide +kernel
theorem dX5_writeNumber_0 : decode cX5_writeNumber 0 = .ok (.iload_n 1, 1) := by decide +kernel
theorem dX5_writeNumber_1 : decode cX5_writeNumber 1 = .ok (.bipush 9, 2) := by decide +kernel
theorem dX5_writeNumber_3 : decode cX5_writeNumber 3 = .ok (.if_icmp .le 14, 3) := by decide +kernel
theorem dX5_writeNumber_6 : decode cX5_writeNumber 6 = .ok (.aload_n 0, 1) := by decide +kernel
theorem dX5_writeNumber_7 : decode cX5_writeNumber 7 = .ok (.bipush 48, 2) := by decide +kernel
theorem dX5_writeNumber_9 : decode cX5_writeNumber 9 = .ok (.iload_n 1, 1) := by decide +kernel
theorem dX5_writeNumber_10 : decode cX5_writeNumber 10 = .ok (.bipush 10, 2) := by decide +kernel
theorem dX5_writeNumber_12 : decode cX5_writeNumber 12 = .ok (.idiv, 1) := by decide +kernel
theorem dX5_writeNumber_13 : decode cX5_writeNumber 13 = .ok (.iadd, 1) := by decide +kernel
theorem dX5_writeNumber_14 : decode cX5_writeNumber 14 = .ok (.invokevirtual 318, 3) := by decide +kernel
theorem dX5_writeNumber_17 : decode cX5_writeNumber 17 = .ok (.aload_n 0, 1) := by decide +kernel
theorem dX5_writeNumber_18 : decode cX5_writeNumber 18 = .ok (.bipush 48, 2) := by decide +kernel
theorem dX5_writeNumber_20 : decode cX5_writeNumber 20 = .ok (.iload_n 1, 1) := by decide +kernel
theorem dX5_writeNumber_21 : decode cX5_writeNumber 21 = .ok (.bipush 10, 2) := by decide +kernel
theorem dX5_writeNumber_23 : decode cX5_writeNumber 23 = .ok (.irem, 1) := by decide +kernel
theorem dX5_writeNumber_24 : decode cX5_writeNumber 24 = .ok (.iadd, 1) := by decide +kernel
theorem dX5_writeNumber_25 : decode cX5_writeNumber 25 = .ok (.invokevirtual 318, 3) := by decide +kernel
theorem dX5_writeNumber_28 : decode cX5_writeNumber 28 = .ok (.return_, 1) := by decide +kernel
theorem dX5_writeStatus_0 : decode cX5_writeStatus 0 = .ok (.aload_n 0, 1) := by decide +kernel
theorem dX5_writeStatus_1 : decode cX5_writeStatus 1 = .ok (.iconst 0, 1) := by decide +kernel
theorem dX5_writeStatus_2 : decode cX5_writeStatus 2 = .ok (.putfield 27, 3) := by decide +kernel
theorem dX5_writeStatus_5 : decode cX5_writeStatus 5 = .ok (.aload_n 0, 1) := by decide +kernel
theorem dX5_writeStatus_6 : decode cX5_writeStatus 6 = .ok (.iconst 0, 1) := by decide +kernel
theorem dX5_writeStatus_7 : decode cX5_writeStatus 7 = .ok (.putfield 315, 3) := by decide +kernel
theorem dX5_writeStatus_10 : decode cX5_writeStatus 10 = .ok (.iconst 0, 1) := by decide +kernel
theorem dX5_writeStatus_11 : decode cX5_writeStatus 11 = .ok (.istore_n 1, 1) := by decide +kernel
theorem dX5_writeStatus_12 : decode cX5_writeStatus 12 = .ok (.iload_n 1, 1) := by decide +kernel
theorem dX5_writeStatus_13 : decode cX5_writeStatus 13 = .ok (.aload_n 0, 1) := by decide +kernel
theorem dX5_writeStatus_14 : decode cX5_writeStatus 14 = .ok (.getfield 7, 3) := by decide +kernel
theorem dX5_writeStatus_17 : decode cX5_writeStatus 17 = .ok (.bipush 10, 2) := by decide +kernel
theorem dX5_writeStatus_19 : decode cX5_writeStatus 19 = .ok (.iaload, 1) := by decide +kernel
theorem dX5_writeStatus_20 : decode cX5_writeStatus 20 = .ok (.if_icmp .ge 50, 3) := by decide +kernel
theorem dX5_writeStatus_23 : decode cX5_writeStatus 23 = .ok (.aload_n 0, 1) := by decide +kernel
theorem dX5_writeStatus_24 : decode cX5_writeStatus 24 = .ok (.iload_n 1, 1) := by decide +kernel
theorem dX5_writeStatus_25 : decode cX5_writeStatus 25 = .ok (.invokevirtual 43, 3) := by decide +kernel
theorem dX5_writeStatus_28 : decode cX5_writeStatus 28 = .ok (.istore_n 2, 1) := by decide +kernel
theorem dX5_writeStatus_29 : decode cX5_writeStatus 29 = .ok (.aload_n 0, 1) := by decide +kernel
theorem dX5_writeStatus_30 : decode cX5_writeStatus 30 = .ok (.iload_n 2, 1) := by decide +kernel
theorem dX5_writeStatus_31 : decode cX5_writeStatus 31 = .ok (.ifCond .ne 8, 3) := by decide +kernel
theorem dX5_writeStatus_34 : decode cX5_writeStatus 34 = .ok (.bipush 46, 2) := by decide +kernel
theorem dX5_writeStatus_36 : decode cX5_writeStatus 36 = .ok (.goto 25, 3) := by decide +kernel
theorem dX5_writeStatus_39 : decode cX5_writeStatus 39 = .ok (.iload_n 2, 1) := by decide +kernel
theorem dX5_writeStatus_40 : decode cX5_writeStatus 40 = .ok (.iconst 1, 1) := by decide +kernel
theorem dX5_writeStatus_41 : decode cX5_writeStatus 41 = .ok (.if_icmp .ne 8, 3) := by decide +kernel
theorem dX5_writeStatus_44 : decode cX5_writeStatus 44 = .ok (.bipush 119, 2) := by decide +kernel
theorem dX5_writeStatus_46 : decode cX5_writeStatus 46 = .ok (.goto 15, 3) := by decide +kernel
theorem dX5_writeStatus_49 : decode cX5_writeStatus 49 = .ok (.iload_n 2, 1) := by decide +kernel
theorem dX5_writeStatus_50 : decode cX5_writeStatus 50 = .ok (.iconst 2, 1) := by decide +kernel
theorem dX5_writeStatus_51 : decode cX5_writeStatus 51 = .ok (.if_icmp .ne 8, 3) := by decide +kernel
theorem dX5_writeStatus_54 : decode cX5_writeStatus 54 = .ok (.bipush 114, 2) := by decide +kernel
theorem dX5_writeStatus_56 : decode cX5_writeStatus 56 = .ok (.goto 5, 3) := by decide +kernel
theorem dX5_writeStatus_59 : decode cX5_writeStatus 59 = .ok (.bipush 100, 2) := by decide +kernel
theorem dX5_writeStatus_61 : decode cX5_writeStatus 61 = .ok (.invokevirtual 318, 3) := by decide +kernel
theorem dX5_writeStatus_64 : decode cX5_writeStatus 64 = .ok (.iinc 1 1, 3) := by decide +kernel
theorem dX5_writeStatus_67 : decode cX5_writeStatus 67 = .ok (.goto (-55), 3) := by decide +kernel
theorem dX5_writeStatus_70 : decode cX5_writeStatus 70 = .ok (.aload_n 0, 1) := by decide +kernel
theorem dX5_writeStatus_71 : decode cX5_writeStatus 71 = .ok (.getfield 315, 3) := by decide +kernel
theorem dX5_writeStatus_74 : decode cX5_writeStatus 74 = .ok (.ireturn, 1) := by decide +kernel
theorem dX5_writeBuilding_0 : decode cX5_writeBuilding 0 = .ok (.aload_n 0, 1) := by decide +kernel
theorem dX5_writeBuilding_1 : decode cX5_writeBuilding 1 = .ok (.iconst 0, 1) := by decide +kernel
theorem dX5_writeBuilding_2 : decode cX5_writeBuilding 2 = .ok (.putfield 27, 3) := by decide +kernel
theorem dX5_writeBuilding_5 : decode cX5_writeBuilding 5 = .ok (.aload_n 0, 1) := by decide +kernel
theorem dX5_writeBuilding_6 : decode cX5_writeBuilding 6 = .ok (.iconst 0, 1) := by decide +kernel
theorem dX5_writeBuilding_7 : decode cX5_writeBuilding 7 = .ok (.putfield 315, 3) := by decide +kernel
theorem dX5_writeBuilding_10 : decode cX5_writeBuilding 10 = .ok (.iconst 0, 1) := by decide +kernel
theorem dX5_writeBuilding_11 : decode cX5_writeBuilding 11 = .ok (.istore_n 1, 1) := by decide +kernel
theorem dX5_writeBuilding_12 : decode cX5_writeBuilding 12 = .ok (.iload_n 1, 1) := by decide +kernel
theorem dX5_writeBuilding_13 : decode cX5_writeBuilding 13 = .ok (.aload_n 0, 1) := by decide +kernel
theorem dX5_writeBuilding_14 : decode cX5_writeBuilding 14 = .ok (.getfield 7, 3) := by decide +kernel
theorem dX5_writeBuilding_17 : decode cX5_writeBuilding 17 = .ok (.iconst 0, 1) := by decide +kernel
theorem dX5_writeBuilding_18 : decode cX5_writeBuilding 18 = .ok (.iaload, 1) := by decide +kernel
theorem dX5_writeBuilding_19 : decode cX5_writeBuilding 19 = .ok (.if_icmp .ge 53, 3) := by decide +kernel
theorem dX5_writeBuilding_22 : decode cX5_writeBuilding 22 = .ok (.iload_n 1, 1) := by decide +kernel
theorem dX5_writeBuilding_23 : decode cX5_writeBuilding 23 = .ok (.ifCond .le 9, 3) := by decide +kernel
theorem dX5_writeBuilding_26 : decode cX5_writeBuilding 26 = .ok (.aload_n 0, 1) := by decide +kernel
theorem dX5_writeBuilding_27 : decode cX5_writeBuilding 27 = .ok (.bipush 44, 2) := by decide +kernel
theorem dX5_writeBuilding_29 : decode cX5_writeBuilding 29 = .ok (.invokevirtual 318, 3) := by decide +kernel
theorem dX5_writeBuilding_32 : decode cX5_writeBuilding 32 = .ok (.aload_n 0, 1) := by decide +kernel
theorem dX5_writeBuilding_33 : decode cX5_writeBuilding 33 = .ok (.aload_n 0, 1) := by decide +kernel
theorem dX5_writeBuilding_34 : decode cX5_writeBuilding 34 = .ok (.iload_n 1, 1) := by decide +kernel
theorem dX5_writeBuilding_35 : decode cX5_writeBuilding 35 = .ok (.invokevirtual 289, 3) := by decide +kernel
theorem dX5_writeBuilding_38 : decode cX5_writeBuilding 38 = .ok (.invokevirtual 321, 3) := by decide +kernel
theorem dX5_writeBuilding_41 : decode cX5_writeBuilding 41 = .ok (.iload_n 1, 1) := by decide +kernel
theorem dX5_writeBuilding_42 : decode cX5_writeBuilding 42 = .ok (.aload_n 0, 1) := by decide +kernel
theorem dX5_writeBuilding_43 : decode cX5_writeBuilding 43 = .ok (.getfield 7, 3) := by decide +kernel
theorem dX5_writeBuilding_46 : decode cX5_writeBuilding 46 = .ok (.iconst 4, 1) := by decide +kernel
theorem dX5_writeBuilding_47 : decode cX5_writeBuilding 47 = .ok (.iaload, 1) := by decide +kernel
theorem dX5_writeBuilding_48 : decode cX5_writeBuilding 48 = .ok (.if_icmp .ne 18, 3) := by decide +kernel
theorem dX5_writeBuilding_51 : decode cX5_writeBuilding 51 = .ok (.aload_n 0, 1) := by decide +kernel
theorem dX5_writeBuilding_52 : decode cX5_writeBuilding 52 = .ok (.bipush 42, 2) := by decide +kernel
theorem dX5_writeBuilding_54 : decode cX5_writeBuilding 54 = .ok (.invokevirtual 318, 3) := by decide +kernel
theorem dX5_writeBuilding_57 : decode cX5_writeBuilding 57 = .ok (.aload_n 0, 1) := by decide +kernel
theorem dX5_writeBuilding_58 : decode cX5_writeBuilding 58 = .ok (.aload_n 0, 1) := by decide +kernel
theorem dX5_writeBuilding_59 : decode cX5_writeBuilding 59 = .ok (.iconst 2, 1) := by decide +kernel
theorem dX5_writeBuilding_60 : decode cX5_writeBuilding 60 = .ok (.invokevirtual 46, 3) := by decide +kernel
theorem dX5_writeBuilding_63 : decode cX5_writeBuilding 63 = .ok (.invokevirtual 321, 3) := by decide +kernel
theorem dX5_writeBuilding_66 : decode cX5_writeBuilding 66 = .ok (.iinc 1 1, 3) := by decide +kernel
theorem dX5_writeBuilding_69 : decode cX5_writeBuilding 69 = .ok (.goto (-57), 3) := by decide +kernel
theorem dX5_writeBuilding_72 : decode cX5_writeBuilding 72 = .ok (.aload_n 0, 1) := by decide +kernel
theorem dX5_writeBuilding_73 : decode cX5_writeBuilding 73 = .ok (.getfield 315, 3) := by decide +kernel
theorem dX5_writeBuilding_76 : decode cX5_writeBuilding 76 = .ok (.ireturn, 1) := by decide +kernel
theorem dX5_outputByte_0 : decode cX5_outputByte 0 = .ok (.aload_n 0, 1) := by decide +kernel
theorem dX5_outputByte_1 : decode cX5_outputByte 1 = .ok (.iconst 0, 1) := by decide +kernel
theorem dX5_outputByte_2 : decode cX5_outputByte 2 = .ok (.putfield 27, 3) := by decide +kernel
theorem dX5_outputByte_5 : decode cX5_outputByte 5 = .ok (.iload_n 1, 1) := by decide +kernel
theorem dX5_outputByte_6 : decode cX5_outputByte 6 = .ok (.iconst 0, 1) := by decide +kernel
theorem dX5_outputByte_7 : decode cX5_outputByte 7 = .ok (.aload_n 0, 1) := by decide +kernel
theorem dX5_outputByte_8 : decode cX5_outputByte 8 = .ok (.getfield 315, 3) := by decide +kernel
theorem dX5_outputByte_11 : decode cX5_outputByte 11 = .ok (.iconst 1, 1) := by decide +kernel
theorem dX5_outputByte_12 : decode cX5_outputByte 12 = .ok (.isub, 1) := by decide +kernel
theorem dX5_outputByte_13 : decode cX5_outputByte 13 = .ok (.invokestatic 63, 3) := by decide +kernel
theorem dX5_outputByte_16 : decode cX5_outputByte 16 = .ok (.ifCond .eq 16, 3) := by decide +kernel
theorem dX5_outputByte_19 : decode cX5_outputByte 19 = .ok (.aload_n 0, 1) := by decide +kernel
theorem dX5_outputByte_20 : decode cX5_outputByte 20 = .ok (.getfield 24, 3) := by decide +kernel
theorem dX5_outputByte_23 : decode cX5_outputByte 23 = .ok (.iload_n 1, 1) := by decide +kernel
theorem dX5_outputByte_24 : decode cX5_outputByte 24 = .ok (.baload, 1) := by decide +kernel
theorem dX5_outputByte_25 : decode cX5_outputByte 25 = .ok (.sipush 255, 3) := by decide +kernel
theorem dX5_outputByte_28 : decode cX5_outputByte 28 = .ok (.iand, 1) := by decide +kernel
theorem dX5_outputByte_29 : decode cX5_outputByte 29 = .ok (.goto 4, 3) := by decide +kernel
theorem dX5_outputByte_32 : decode cX5_outputByte 32 = .ok (.iconst (-1), 1) := by decide +kernel
theorem dX5_outputByte_33 : decode cX5_outputByte 33 = .ok (.ireturn, 1) := by decide +kernel
theorem dJx29ce0_ordinal_8abf5_0 : decode cJx29ce0_ordinal_8abf5 0 = .ok (.aload_n 0, 1) := by decide +kernel
theorem dJx29ce0_ordinal_8abf5_1 : decode cJx29ce0_ordinal_8abf5 1 = .ok (.getfield 7, 3) := by decide +kernel
theorem dJx29ce0_ordinal_8abf5_4 : decode cJx29ce0_ordinal_8abf5 4 = .ok (.ireturn, 1) := by decide +kernel
theorem dJ9_abs_0f7a4_0 : decode cJ9_abs_0f7a4 0 = .ok (.iload_n 0, 1) := by decide +kernel
theorem dJ9_abs_0f7a4_1 : decode cJ9_abs_0f7a4 1 = .ok (.ifCond .ge 8, 3) := by decide +kernel
theorem dJ9_abs_0f7a4_4 : decode cJ9_abs_0f7a4 4 = .ok (.iload_n 0, 1) := by decide +kernel
theorem dJ9_abs_0f7a4_5 : decode cJ9_abs_0f7a4 5 = .ok (.ineg, 1) := by decide +kernel
theorem dJ9_abs_0f7a4_6 : decode cJ9_abs_0f7a4 6 = .ok (.goto 4, 3) := by decide +kernel
theorem dJ9_abs_0f7a4_9 : decode cJ9_abs_0f7a4 9 = .ok (.iload_n 0, 1) := by decide +kernel
theorem dJ9_abs_0f7a4_10 : decode cJ9_abs_0f7a4 10 = .ok (.ireturn, 1) := by decide +kernel
theorem dJ9_max_7cf53_0 : decode cJ9_max_7cf53 0 = .ok (.iload_n 0, 1) := by decide +kernel
theorem dJ9_max_7cf53_1 : decode cJ9_max_7cf53 1 = .ok (.iload_n 1, 1) := by decide +kernel
theorem dJ9_max_7cf53_2 : decode cJ9_max_7cf53 2 = .ok (.if_icmp .lt 7, 3) := by decide +kernel
theorem dJ9_max_7cf53_5 : decode cJ9_max_7cf53 5 = .ok (.iload_n 0, 1) := by decide +kernel
theorem dJ9_max_7cf53_6 : decode cJ9_max_7cf53 6 = .ok (.goto 4, 3) := by decide +kernel
theorem dJ9_max_7cf53_9 : decode cJ9_max_7cf53 9 = .ok (.iload_n 1, 1) := by decide +kernel
theorem dJ9_max_7cf53_10 : decode cJ9_max_7cf53 10 = .ok (.ireturn, 1) := by decide +kernel
theorem dJ9_min_7cf53_0 : decode cJ9_min_7cf53 0 = .ok (.iload_n 0, 1) := by decide +kernel
theorem dJ9_min_7cf53_1 : decode cJ9_min_7cf53 1 = .ok (.iload_n 1, 1) := by decide +kernel
theorem dJ9_min_7cf53_2 : decode cJ9_min_7cf53 2 = .ok (.if_icmp .gt 7, 3) := by decide +kernel
theorem dJ9_min_7cf53_5 : decode cJ9_min_7cf53 5 = .ok (.iload_n 0, 1) := by decide +kernel
theorem dJ9_min_7cf53_6 : decode cJ9_min_7cf53 6 = .ok (.goto 4, 3) := by decide +kernel
theorem dJ9_min_7cf53_9 : decode cJ9_min_7cf53 9 = .ok (.iload_n 1, 1) := by decide +kernel
theorem dJ9_min_7cf53_10 : decode cJ9_min_7cf53 10 = .ok (.ireturn, 1) := by decide +kernel
theorem dJ0_length_8abf5_0 : decode cJ0_length_8abf5 0 = .ok (.aload_n 0, 1) := by decide +kernel
theorem dJ0_length_8abf5_1 : decode cJ0_length_8abf5 1 = .ok (.getfield 9, 3) := by decide +kernel
theorem dJ0_length_8abf5_4 : decode cJ0_length_8abf5 4 = .ok (.arraylength, 1) := by decide +kernel
theorem dJ0_length_8abf5_5 : decode cJ0_length_8abf5 5 = .ok (.aload_n 0, 1) := by decide +kernel
theorem dJ0_length_8abf5_6 : decode cJ0_length_8abf5 6 = .ok (.invokevirtual 335, 3) := by decide +kernel
theorem dJ0_length_8abf5_9 : decode cJ0_length_8abf5 9 = .ok (.ishr, 1) := by decide +kernel
theorem dJ0_length_8abf5_10 : decode cJ0_length_8abf5 10 = .ok (.ireturn, 1) := by decide +kernel
theorem dJ0_charAt_5068e_0 : decode cJ0_charAt_5068e 0 = .ok (.aload_n 0, 1) := by decide +kernel
theorem dJ0_charAt_5068e_1 : decode cJ0_charAt_5068e 1 = .ok (.invokevirtual 492, 3) := by decide +kernel
theorem dJ0_charAt_5068e_4 : decode cJ0_charAt_5068e 4 = .ok (.ifCond .eq 12, 3) := by decide +kernel
theorem dJ0_charAt_5068e_7 : decode cJ0_charAt_5068e 7 = .ok (.aload_n 0, 1) := by decide +kernel
theorem dJ0_charAt_5068e_8 : decode cJ0_charAt_5068e 8 = .ok (.getfield 9, 3) := by decide +kernel
theorem dJ0_charAt_5068e_11 : decode cJ0_charAt_5068e 11 = .ok (.iload_n 1, 1) := by decide +kernel
theorem dJ0_charAt_5068e_12 : decode cJ0_charAt_5068e 12 = .ok (.invokestatic 495, 3) := by decide +kernel
theorem dJ0_charAt_5068e_15 : decode cJ0_charAt_5068e 15 = .ok (.ireturn, 1) := by decide +kernel
theorem dJ0_charAt_5068e_16 : decode cJ0_charAt_5068e 16 = .ok (.aload_n 0, 1) := by decide +kernel
theorem dJ0_charAt_5068e_17 : decode cJ0_charAt_5068e 17 = .ok (.getfield 9, 3) := by decide +kernel
theorem dJ0_charAt_5068e_20 : decode cJ0_charAt_5068e 20 = .ok (.iload_n 1, 1) := by decide +kernel
theorem dJ0_charAt_5068e_21 : decode cJ0_charAt_5068e 21 = .ok (.invokestatic 498, 3) := by decide +kernel
theorem dJ0_charAt_5068e_24 : decode cJ0_charAt_5068e 24 = .ok (.ireturn, 1) := by decide +kernel
theorem dJ0_coder_7d493_0 : decode cJ0_coder_7d493 0 = .ok (.getstatic 38, 3) := by decide +kernel
theorem dJ0_coder_7d493_3 : decode cJ0_coder_7d493 3 = .ok (.ifCond .eq 10, 3) := by decide +kernel
theorem dJ0_coder_7d493_6 : decode cJ0_coder_7d493 6 = .ok (.aload_n 0, 1) := by decide +kernel
theorem dJ0_coder_7d493_7 : decode cJ0_coder_7d493 7 = .ok (.getfield 15, 3) := by decide +kernel
theorem dJ0_coder_7d493_10 : decode cJ0_coder_7d493 10 = .ok (.goto 4, 3) := by decide +kernel
theorem dJ0_coder_7d493_13 : decode cJ0_coder_7d493 13 = .ok (.iconst 1, 1) := by decide +kernel
theorem dJ0_coder_7d493_14 : decode cJ0_coder_7d493 14 = .ok (.ireturn, 1) := by decide +kernel
theorem dJ0_isLatin1_aae02_0 : decode cJ0_isLatin1_aae02 0 = .ok (.getstatic 38, 3) := by decide +kernel
theorem dJ0_isLatin1_aae02_3 : decode cJ0_isLatin1_aae02 3 = .ok (.ifCond .eq 14, 3) := by decide +kernel
theorem dJ0_isLatin1_aae02_6 : decode cJ0_isLatin1_aae02 6 = .ok (.aload_n 0, 1) := by decide +kernel
theorem dJ0_isLatin1_aae02_7 : decode cJ0_isLatin1_aae02 7 = .ok (.getfield 15, 3) := by decide +kernel
theorem dJ0_isLatin1_aae02_10 : decode cJ0_isLatin1_aae02 10 = .ok (.ifCond .ne 7, 3) := by decide +kernel
theorem dJ0_isLatin1_aae02_13 : decode cJ0_isLatin1_aae02 13 = .ok (.iconst 1, 1) := by decide +kernel
theorem dJ0_isLatin1_aae02_14 : decode cJ0_isLatin1_aae02 14 = .ok (.goto 4, 3) := by decide +kernel
theorem dJ0_isLatin1_aae02_17 : decode cJ0_isLatin1_aae02 17 = .ok (.iconst 0, 1) := by decide +kernel
theorem dJ0_isLatin1_aae02_18 : decode cJ0_isLatin1_aae02 18 = .ok (.ireturn, 1) := by decide +kernel
theorem dJ0_checkIndex_df160_0 : decode cJ0_checkIndex_df160 0 = .ok (.iload_n 0, 1) := by decide +kernel
theorem dJ0_checkIndex_df160_1 : decode cJ0_checkIndex_df160 1 = .ok (.iload_n 1, 1) := by decide +kernel
theorem dJ0_checkIndex_df160_2 : decode cJ0_checkIndex_df160 2 = .ok (.getstatic 1053, 3) := by decide +kernel
theorem dJ0_checkIndex_df160_5 : decode cJ0_checkIndex_df160 5 = .ok (.invokestatic 1059, 3) := by decide +kernel
theorem dJ0_checkIndex_df160_8 : decode cJ0_checkIndex_df160 8 = .ok (.pop, 1) := by decide +kernel
theorem dJ0_checkIndex_df160_9 : decode cJ0_checkIndex_df160 9 = .ok (.return_, 1) := by decide +kernel
theorem dJ1_charAt_3b067_0 : decode cJ1_charAt_3b067 0 = .ok (.iload_n 1, 1) := by decide +kernel
theorem dJ1_charAt_3b067_1 : decode cJ1_charAt_3b067 1 = .ok (.aload_n 0, 1) := by decide +kernel
theorem dJ1_charAt_3b067_2 : decode cJ1_charAt_3b067 2 = .ok (.arraylength, 1) := by decide +kernel
theorem dJ1_charAt_3b067_3 : decode cJ1_charAt_3b067 3 = .ok (.invokestatic 9, 3) := by decide +kernel
theorem dJ1_charAt_3b067_6 : decode cJ1_charAt_3b067 6 = .ok (.aload_n 0, 1) := by decide +kernel
theorem dJ1_charAt_3b067_7 : decode cJ1_charAt_3b067 7 = .ok (.iload_n 1, 1) := by decide +kernel
theorem dJ1_charAt_3b067_8 : decode cJ1_charAt_3b067 8 = .ok (.baload, 1) := by decide +kernel
theorem dJ1_charAt_3b067_9 : decode cJ1_charAt_3b067 9 = .ok (.sipush 255, 3) := by decide +kernel
theorem dJ1_charAt_3b067_12 : decode cJ1_charAt_3b067 12 = .ok (.iand, 1) := by decide +kernel
theorem dJ1_charAt_3b067_13 : decode cJ1_charAt_3b067 13 = .ok (.i2c, 1) := by decide +kernel
theorem dJ1_charAt_3b067_14 : decode cJ1_charAt_3b067 14 = .ok (.ireturn, 1) := by decide +kernel
theorem dJ2_getChar_3b067_0 : decode cJ2_getChar_3b067 0 = .ok (.getstatic 44, 3) := by decide +kernel
theorem dJ2_getChar_3b067_3 : decode cJ2_getChar_3b067 3 = .ok (.ifCond .ne 25, 3) := by decide +kernel
theorem dJ2_getChar_3b067_6 : decode cJ2_getChar_3b067 6 = .ok (.iload_n 1, 1) := by decide +kernel
theorem dJ2_getChar_3b067_7 : decode cJ2_getChar_3b067 7 = .ok (.ifCond .lt 11, 3) := by decide +kernel
theorem dJ2_getChar_3b067_10 : decode cJ2_getChar_3b067 10 = .ok (.iload_n 1, 1) := by decide +kernel
theorem dJ2_getChar_3b067_11 : decode cJ2_getChar_3b067 11 = .ok (.aload_n 0, 1) := by decide +kernel
theorem dJ2_getChar_3b067_12 : decode cJ2_getChar_3b067 12 = .ok (.invokestatic 48, 3) := by decide +kernel
theorem dJ2_getChar_3b067_15 : decode cJ2_getChar_3b067 15 = .ok (.if_icmp .lt 13, 3) := by decide +kernel
theorem dJ2_getChar_3b067_18 : decode cJ2_getChar_3b067 18 = .ok (.new 52, 3) := by decide +kernel
theorem dJ2_getChar_3b067_21 : decode cJ2_getChar_3b067 21 = .ok (.dup, 1) := by decide +kernel
theorem dJ2_getChar_3b067_22 : decode cJ2_getChar_3b067 22 = .ok (.ldc 54, 2) := by decide +kernel
theorem dJ2_getChar_3b067_24 : decode cJ2_getChar_3b067 24 = .ok (.invokespecial 56, 3) := by decide +kernel
theorem dJ2_getChar_3b067_27 : decode cJ2_getChar_3b067 27 = .ok (.athrow, 1) := by decide +kernel
theorem dJ2_getChar_3b067_28 : decode cJ2_getChar_3b067 28 = .ok (.iload_n 1, 1) := by decide +kernel
theorem dJ2_getChar_3b067_29 : decode cJ2_getChar_3b067 29 = .ok (.iconst 1, 1) := by decide +kernel
theorem dJ2_getChar_3b067_30 : decode cJ2_getChar_3b067 30 = .ok (.ishl, 1) := by decide +kernel
theorem dJ2_getChar_3b067_31 : decode cJ2_getChar_3b067 31 = .ok (.istore_n 1, 1) := by decide +kernel
theorem dJ2_getChar_3b067_32 : decode cJ2_getChar_3b067 32 = .ok (.aload_n 0, 1) := by decide +kernel
theorem dJ2_getChar_3b067_33 : decode cJ2_getChar_3b067 33 = .ok (.iload_n 1, 1) := by decide +kernel
theorem dJ2_getChar_3b067_34 : decode cJ2_getChar_3b067 34 = .ok (.iinc 1 1, 3) := by decide +kernel
theorem dJ2_getChar_3b067_37 : decode cJ2_getChar_3b067 37 = .ok (.baload, 1) := by decide +kernel
theorem dJ2_getChar_3b067_38 : decode cJ2_getChar_3b067 38 = .ok (.sipush 255, 3) := by decide +kernel
theorem dJ2_getChar_3b067_41 : decode cJ2_getChar_3b067 41 = .ok (.iand, 1) := by decide +kernel
theorem dJ2_getChar_3b067_42 : decode cJ2_getChar_3b067 42 = .ok (.getstatic 59, 3) := by decide +kernel
theorem dJ2_getChar_3b067_45 : decode cJ2_getChar_3b067 45 = .ok (.ishl, 1) := by decide +kernel
theorem dJ2_getChar_3b067_46 : decode cJ2_getChar_3b067 46 = .ok (.aload_n 0, 1) := by decide +kernel
theorem dJ2_getChar_3b067_47 : decode cJ2_getChar_3b067 47 = .ok (.iload_n 1, 1) := by decide +kernel
theorem dJ2_getChar_3b067_48 : decode cJ2_getChar_3b067 48 = .ok (.baload, 1) := by decide +kernel
theorem dJ2_getChar_3b067_49 : decode cJ2_getChar_3b067 49 = .ok (.sipush 255, 3) := by decide +kernel
theorem dJ2_getChar_3b067_52 : decode cJ2_getChar_3b067 52 = .ok (.iand, 1) := by decide +kernel
theorem dJ2_getChar_3b067_53 : decode cJ2_getChar_3b067 53 = .ok (.getstatic 63, 3) := by decide +kernel
theorem dJ2_getChar_3b067_56 : decode cJ2_getChar_3b067 56 = .ok (.ishl, 1) := by decide +kernel
theorem dJ2_getChar_3b067_57 : decode cJ2_getChar_3b067 57 = .ok (.ior, 1) := by decide +kernel
theorem dJ2_getChar_3b067_58 : decode cJ2_getChar_3b067 58 = .ok (.i2c, 1) := by decide +kernel
theorem dJ2_getChar_3b067_59 : decode cJ2_getChar_3b067 59 = .ok (.ireturn, 1) := by decide +kernel
theorem dJ2_length_9d52b_0 : decode cJ2_length_9d52b 0 = .ok (.aload_n 0, 1) := by decide +kernel
theorem dJ2_length_9d52b_1 : decode cJ2_length_9d52b 1 = .ok (.arraylength, 1) := by decide +kernel
theorem dJ2_length_9d52b_2 : decode cJ2_length_9d52b 2 = .ok (.iconst 1, 1) := by decide +kernel
theorem dJ2_length_9d52b_3 : decode cJ2_length_9d52b 3 = .ok (.ishr, 1) := by decide +kernel
theorem dJ2_length_9d52b_4 : decode cJ2_length_9d52b 4 = .ok (.ireturn, 1) := by decide +kernel
theorem dJ2_charAt_3b067_0 : decode cJ2_charAt_3b067 0 = .ok (.iload_n 1, 1) := by decide +kernel
theorem dJ2_charAt_3b067_1 : decode cJ2_charAt_3b067 1 = .ok (.aload_n 0, 1) := by decide +kernel
theorem dJ2_charAt_3b067_2 : decode cJ2_charAt_3b067 2 = .ok (.invokestatic 67, 3) := by decide +kernel
theorem dJ2_charAt_3b067_5 : decode cJ2_charAt_3b067 5 = .ok (.aload_n 0, 1) := by decide +kernel
theorem dJ2_charAt_3b067_6 : decode cJ2_charAt_3b067 6 = .ok (.iload_n 1, 1) := by decide +kernel
theorem dJ2_charAt_3b067_7 : decode cJ2_charAt_3b067 7 = .ok (.invokestatic 71, 3) := by decide +kernel
theorem dJ2_charAt_3b067_10 : decode cJ2_charAt_3b067 10 = .ok (.ireturn, 1) := by decide +kernel
theorem dJ2_checkIndex_2214a_0 : decode cJ2_checkIndex_2214a 0 = .ok (.iload_n 0, 1) := by decide +kernel
theorem dJ2_checkIndex_2214a_1 : decode cJ2_checkIndex_2214a 1 = .ok (.aload_n 1, 1) := by decide +kernel
theorem dJ2_checkIndex_2214a_2 : decode cJ2_checkIndex_2214a 2 = .ok (.invokestatic 48, 3) := by decide +kernel
theorem dJ2_checkIndex_2214a_5 : decode cJ2_checkIndex_2214a 5 = .ok (.invokestatic 414, 3) := by decide +kernel
theorem dJ2_checkIndex_2214a_8 : decode cJ2_checkIndex_2214a 8 = .ok (.return_, 1) := by decide +kernel
theorem dJ3_checkIndex_8e157_0 : decode cJ3_checkIndex_8e157 0 = .ok (.iload_n 0, 1) := by decide +kernel
theorem dJ3_checkIndex_8e157_1 : decode cJ3_checkIndex_8e157 1 = .ok (.ifCond .lt 8, 3) := by decide +kernel
theorem dJ3_checkIndex_8e157_4 : decode cJ3_checkIndex_8e157 4 = .ok (.iload_n 0, 1) := by decide +kernel
theorem dJ3_checkIndex_8e157_5 : decode cJ3_checkIndex_8e157 5 = .ok (.iload_n 1, 1) := by decide +kernel
theorem dJ3_checkIndex_8e157_6 : decode cJ3_checkIndex_8e157 6 = .ok (.if_icmp .lt 10, 3) := by decide +kernel
theorem dJ3_checkIndex_8e157_9 : decode cJ3_checkIndex_8e157 9 = .ok (.aload_n 2, 1) := by decide +kernel
theorem dJ3_checkIndex_8e157_10 : decode cJ3_checkIndex_8e157 10 = .ok (.iload_n 0, 1) := by decide +kernel
theorem dJ3_checkIndex_8e157_11 : decode cJ3_checkIndex_8e157 11 = .ok (.iload_n 1, 1) := by decide +kernel
theorem dJ3_checkIndex_8e157_12 : decode cJ3_checkIndex_8e157 12 = .ok (.invokestatic 95, 3) := by decide +kernel
theorem dJ3_checkIndex_8e157_15 : decode cJ3_checkIndex_8e157 15 = .ok (.athrow, 1) := by decide +kernel
theorem dJ3_checkIndex_8e157_16 : decode cJ3_checkIndex_8e157 16 = .ok (.iload_n 0, 1) := by decide +kernel
theorem dJ3_checkIndex_8e157_17 : decode cJ3_checkIndex_8e157 17 = .ok (.ireturn, 1) := by decide +kernel
theorem dL_load_0 : decode cL_load 0 = .ok (.aload_n 1, 1) := by decide +kernel
theorem dL_load_1 : decode cL_load 1 = .ok (.iconst 0, 1) := by decide +kernel
theorem dL_load_2 : decode cL_load 2 = .ok (.aload_n 0, 1) := by decide +kernel
theorem dL_load_3 : decode cL_load 3 = .ok (.invokevirtual 7, 3) := by decide +kernel
theorem dL_load_6 : decode cL_load 6 = .ok (.i2l, 1) := by decide +kernel
theorem dL_load_7 : decode cL_load 7 = .ok (.lastore, 1) := by decide +kernel
theorem dL_load_8 : decode cL_load 8 = .ok (.goto 6, 3) := by decide +kernel
theorem dL_load_11 : decode cL_load 11 = .ok (.astore_n 2, 1) := by decide +kernel
theorem dL_load_12 : decode cL_load 12 = .ok (.iconst 1, 1) := by decide +kernel
theorem dL_load_13 : decode cL_load 13 = .ok (.ireturn, 1) := by decide +kernel
theorem dL_load_14 : decode cL_load 14 = .ok (.iconst 0, 1) := by decide +kernel
theorem dL_load_15 : decode cL_load 15 = .ok (.ireturn, 1) := by decide +kernel
theorem dL_play_0 : decode cL_play 0 = .ok (.aload_n 1, 1) := by decide +kernel
theorem dL_play_1 : decode cL_play 1 = .ok (.iconst 0, 1) := by decide +kernel
theorem dL_play_2 : decode cL_play 2 = .ok (.aload_n 0, 1) := by decide +kernel
theorem dL_play_3 : decode cL_play 3 = .ok (.invokevirtual 15, 3) := by decide +kernel
theorem dL_play_6 : decode cL_play 6 = .ok (.i2l, 1) := by decide +kernel
theorem dL_play_7 : decode cL_play 7 = .ok (.lastore, 1) := by decide +kernel
theorem dL_play_8 : decode cL_play 8 = .ok (.goto 6, 3) := by decide +kernel
theorem dL_play_11 : decode cL_play 11 = .ok (.astore_n 2, 1) := by decide +kernel
theorem dL_play_12 : decode cL_play 12 = .ok (.iconst 1, 1) := by decide +kernel
theorem dL_play_13 : decode cL_play 13 = .ok (.ireturn, 1) := by decide +kernel
theorem dL_play_14 : decode cL_play 14 = .ok (.iconst 0, 1) := by decide +kernel
theorem dL_play_15 : decode cL_play 15 = .ok (.ireturn, 1) := by decide +kernel
theorem dL_targetBy_0 : decode cL_targetBy 0 = .ok (.aload_n 2, 1) := by decide +kernel
theorem dL_targetBy_1 : decode cL_targetBy 1 = .ok (.iconst 0, 1) := by decide +kernel
theorem dL_targetBy_2 : decode cL_targetBy 2 = .ok (.aload_n 0, 1) := by decide +kernel
theorem dL_targetBy_3 : decode cL_targetBy 3 = .ok (.iload_n 1, 1) := by decide +kernel
theorem dL_targetBy_4 : decode cL_targetBy 4 = .ok (.invokevirtual 18, 3) := by decide +kernel
theorem dL_targetBy_7 : decode cL_targetBy 7 = .ok (.i2l, 1) := by decide +kernel
theorem dL_targetBy_8 : decode cL_targetBy 8 = .ok (.lastore, 1) := by decide +kernel
theorem dL_targetBy_9 : decode cL_targetBy 9 = .ok (.goto 6, 3) := by decide +kernel
theorem dL_targetBy_12 : decode cL_targetBy 12 = .ok (.astore_n 3, 1) := by decide +kernel
theorem dL_targetBy_13 : decode cL_targetBy 13 = .ok (.iconst 1, 1) := by decide +kernel
theorem dL_targetBy_14 : decode cL_targetBy 14 = .ok (.ireturn, 1) := by decide +kernel
theorem dL_targetBy_15 : decode cL_targetBy 15 = .ok (.iconst 0, 1) := by decide +kernel
theorem dL_targetBy_16 : decode cL_targetBy 16 = .ok (.ireturn, 1) := by decide +kernel
theorem dL_statusOf_0 : decode cL_statusOf 0 = .ok (.aload_n 2, 1) := by decide +kernel
theorem dL_statusOf_1 : decode cL_statusOf 1 = .ok (.iconst 0, 1) := by decide +kernel
theorem dL_statusOf_2 : decode cL_statusOf 2 = .ok (.aload_n 0, 1) := by decide +kernel
theorem dL_statusOf_3 : decode cL_statusOf 3 = .ok (.iload_n 1, 1) := by decide +kernel
theorem dL_statusOf_4 : decode cL_statusOf 4 = .ok (.invokevirtual 22, 3) := by decide +kernel
theorem dL_statusOf_7 : decode cL_statusOf 7 = .ok (.i2l, 1) := by decide +kernel
theorem dL_statusOf_8 : decode cL_statusOf 8 = .ok (.lastore, 1) := by decide +kernel
theorem dL_statusOf_9 : decode cL_statusOf 9 = .ok (.goto 6, 3) := by decide +kernel
theorem dL_statusOf_12 : decode cL_statusOf 12 = .ok (.astore_n 3, 1) := by decide +kernel
theorem dL_statusOf_13 : decode cL_statusOf 13 = .ok (.iconst 1, 1) := by decide +kernel
theorem dL_statusOf_14 : decode cL_statusOf 14 = .ok (.ireturn, 1) := by decide +kernel
theorem dL_statusOf_15 : decode cL_statusOf 15 = .ok (.iconst 0, 1) := by decide +kernel
theorem dL_statusOf_16 : decode cL_statusOf 16 = .ok (.ireturn, 1) := by decide +kernel
theorem dL_originOf_0 : decode cL_originOf 0 = .ok (.aload_n 2, 1) := by decide +kernel
theorem dL_originOf_1 : decode cL_originOf 1 = .ok (.iconst 0, 1) := by decide +kernel
theorem dL_originOf_2 : decode cL_originOf 2 = .ok (.aload_n 0, 1) := by decide +kernel
theorem dL_originOf_3 : decode cL_originOf 3 = .ok (.iload_n 1, 1) := by decide +kernel
theorem dL_originOf_4 : decode cL_originOf 4 = .ok (.invokevirtual 27, 3) := by decide +kernel
theorem dL_originOf_7 : decode cL_originOf 7 = .ok (.i2l, 1) := by decide +kernel
theorem dL_originOf_8 : decode cL_originOf 8 = .ok (.lastore, 1) := by decide +kernel
theorem dL_originOf_9 : decode cL_originOf 9 = .ok (.goto 6, 3) := by decide +kernel
theorem dL_originOf_12 : decode cL_originOf 12 = .ok (.astore_n 3, 1) := by decide +kernel
theorem dL_originOf_13 : decode cL_originOf 13 = .ok (.iconst 1, 1) := by decide +kernel
theorem dL_originOf_14 : decode cL_originOf 14 = .ok (.ireturn, 1) := by decide +kernel
theorem dL_originOf_15 : decode cL_originOf 15 = .ok (.iconst 0, 1) := by decide +kernel
theorem dL_originOf_16 : decode cL_originOf 16 = .ok (.ireturn, 1) := by decide +kernel
theorem dL_destinationOf_0 : decode cL_destinationOf 0 = .ok (.aload_n 2, 1) := by decide +kernel
theorem dL_destinationOf_1 : decode cL_destinationOf 1 = .ok (.iconst 0, 1) := by decide +kernel
theorem dL_destinationOf_2 : decode cL_destinationOf 2 = .ok (.aload_n 0, 1) := by decide +kernel
theorem dL_destinationOf_3 : decode cL_destinationOf 3 = .ok (.iload_n 1, 1) := by decide +kernel
theorem dL_destinationOf_4 : decode cL_destinationOf 4 = .ok (.invokevirtual 30, 3) := by decide +kernel
theorem dL_destinationOf_7 : decode cL_destinationOf 7 = .ok (.i2l, 1) := by decide +kernel
theorem dL_destinationOf_8 : decode cL_destinationOf 8 = .ok (.lastore, 1) := by decide +kernel
theorem dL_destinationOf_9 : decode cL_destinationOf 9 = .ok (.goto 6, 3) := by decide +kernel
theorem dL_destinationOf_12 : decode cL_destinationOf 12 = .ok (.astore_n 3, 1) := by decide +kernel
theorem dL_destinationOf_13 : decode cL_destinationOf 13 = .ok (.iconst 1, 1) := by decide +kernel
theorem dL_destinationOf_14 : decode cL_destinationOf 14 = .ok (.ireturn, 1) := by decide +kernel
theorem dL_destinationOf_15 : decode cL_destinationOf 15 = .ok (.iconst 0, 1) := by decide +kernel
theorem dL_destinationOf_16 : decode cL_destinationOf 16 = .ok (.ireturn, 1) := by decide +kernel
theorem dL_arrivalOf_0 : decode cL_arrivalOf 0 = .ok (.aload_n 2, 1) := by decide +kernel
theorem dL_arrivalOf_1 : decode cL_arrivalOf 1 = .ok (.iconst 0, 1) := by decide +kernel
theorem dL_arrivalOf_2 : decode cL_arrivalOf 2 = .ok (.aload_n 0, 1) := by decide +kernel
theorem dL_arrivalOf_3 : decode cL_arrivalOf 3 = .ok (.iload_n 1, 1) := by decide +kernel
theorem dL_arrivalOf_4 : decode cL_arrivalOf 4 = .ok (.invokevirtual 33, 3) := by decide +kernel
theorem dL_arrivalOf_7 : decode cL_arrivalOf 7 = .ok (.i2l, 1) := by decide +kernel
theorem dL_arrivalOf_8 : decode cL_arrivalOf 8 = .ok (.lastore, 1) := by decide +kernel
theorem dL_arrivalOf_9 : decode cL_arrivalOf 9 = .ok (.goto 6, 3) := by decide +kernel
theorem dL_arrivalOf_12 : decode cL_arrivalOf 12 = .ok (.astore_n 3, 1) := by decide +kernel
theorem dL_arrivalOf_13 : decode cL_arrivalOf 13 = .ok (.iconst 1, 1) := by decide +kernel
theorem dL_arrivalOf_14 : decode cL_arrivalOf 14 = .ok (.ireturn, 1) := by decide +kernel
theorem dL_arrivalOf_15 : decode cL_arrivalOf 15 = .ok (.iconst 0, 1) := by decide +kernel
theorem dL_arrivalOf_16 : decode cL_arrivalOf 16 = .ok (.ireturn, 1) := by decide +kernel
theorem dL_boardedAt_0 : decode cL_boardedAt 0 = .ok (.aload_n 2, 1) := by decide +kernel
theorem dL_boardedAt_1 : decode cL_boardedAt 1 = .ok (.iconst 0, 1) := by decide +kernel
theorem dL_boardedAt_2 : decode cL_boardedAt 2 = .ok (.aload_n 0, 1) := by decide +kernel
theorem dL_boardedAt_3 : decode cL_boardedAt 3 = .ok (.iload_n 1, 1) := by decide +kernel
theorem dL_boardedAt_4 : decode cL_boardedAt 4 = .ok (.invokevirtual 36, 3) := by decide +kernel
theorem dL_boardedAt_7 : decode cL_boardedAt 7 = .ok (.i2l, 1) := by decide +kernel
theorem dL_boardedAt_8 : decode cL_boardedAt 8 = .ok (.lastore, 1) := by decide +kernel
theorem dL_boardedAt_9 : decode cL_boardedAt 9 = .ok (.goto 6, 3) := by decide +kernel
theorem dL_boardedAt_12 : decode cL_boardedAt 12 = .ok (.astore_n 3, 1) := by decide +kernel
theorem dL_boardedAt_13 : decode cL_boardedAt 13 = .ok (.iconst 1, 1) := by decide +kernel

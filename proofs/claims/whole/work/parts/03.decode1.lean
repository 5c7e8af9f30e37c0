theorem dX4_waitingAt_6 : decode cX4_waitingAt 6 = .ok (.getfield 10, 3) := by decide +kernel
theorem dX4_waitingAt_9 : decode cX4_waitingAt 9 = .ok (.iload_n 1, 1) := by decide +kernel
theorem dX4_waitingAt_10 : decode cX4_waitingAt 10 = .ok (.invokevirtual 186, 3) := by decide +kernel
theorem dX4_waitingAt_13 : decode cX4_waitingAt 13 = .ok (.ireturn, 1) := by decide +kernel
theorem dX4_queueAt_0 : decode cX4_queueAt 0 = .ok (.aload_n 0, 1) := by decide +kernel
theorem dX4_queueAt_1 : decode cX4_queueAt 1 = .ok (.iload_n 1, 1) := by decide +kernel
theorem dX4_queueAt_2 : decode cX4_queueAt 2 = .ok (.invokevirtual 183, 3) := by decide +kernel
theorem dX4_queueAt_5 : decode cX4_queueAt 5 = .ok (.iconst 0, 1) := by decide +kernel
theorem dX4_queueAt_6 : decode cX4_queueAt 6 = .ok (.istore_n 3, 1) := by decide +kernel
theorem dX4_queueAt_7 : decode cX4_queueAt 7 = .ok (.iconst 0, 1) := by decide +kernel
theorem dX4_queueAt_8 : decode cX4_queueAt 8 = .ok (.istore 4, 2) := by decide +kernel
theorem dX4_queueAt_10 : decode cX4_queueAt 10 = .ok (.iload 4, 2) := by decide +kernel
theorem dX4_queueAt_12 : decode cX4_queueAt 12 = .ok (.aload_n 0, 1) := by decide +kernel
theorem dX4_queueAt_13 : decode cX4_queueAt 13 = .ok (.getfield 10, 3) := by decide +kernel
theorem dX4_queueAt_16 : decode cX4_queueAt 16 = .ok (.getfield 83, 3) := by decide +kernel
theorem dX4_queueAt_19 : decode cX4_queueAt 19 = .ok (.if_icmp .ge 59, 3) := by decide +kernel
theorem dX4_queueAt_22 : decode cX4_queueAt 22 = .ok (.aload_n 0, 1) := by decide +kernel
theorem dX4_queueAt_23 : decode cX4_queueAt 23 = .ok (.getfield 10, 3) := by decide +kernel
theorem dX4_queueAt_26 : decode cX4_queueAt 26 = .ok (.getfield 189, 3) := by decide +kernel
theorem dX4_queueAt_29 : decode cX4_queueAt 29 = .ok (.iload 4, 2) := by decide +kernel
theorem dX4_queueAt_31 : decode cX4_queueAt 31 = .ok (.iaload, 1) := by decide +kernel
theorem dX4_queueAt_32 : decode cX4_queueAt 32 = .ok (.istore 5, 2) := by decide +kernel
theorem dX4_queueAt_34 : decode cX4_queueAt 34 = .ok (.aload_n 0, 1) := by decide +kernel
theorem dX4_queueAt_35 : decode cX4_queueAt 35 = .ok (.getfield 10, 3) := by decide +kernel
theorem dX4_queueAt_38 : decode cX4_queueAt 38 = .ok (.getfield 151, 3) := by decide +kernel
theorem dX4_queueAt_41 : decode cX4_queueAt 41 = .ok (.iload 5, 2) := by decide +kernel
theorem dX4_queueAt_43 : decode cX4_queueAt 43 = .ok (.iaload, 1) := by decide +kernel
theorem dX4_queueAt_44 : decode cX4_queueAt 44 = .ok (.iload_n 1, 1) := by decide +kernel
theorem dX4_queueAt_45 : decode cX4_queueAt 45 = .ok (.if_icmp .ne 27, 3) := by decide +kernel
theorem dX4_queueAt_48 : decode cX4_queueAt 48 = .ok (.aload_n 0, 1) := by decide +kernel
theorem dX4_queueAt_49 : decode cX4_queueAt 49 = .ok (.getfield 10, 3) := by decide +kernel
theorem dX4_queueAt_52 : decode cX4_queueAt 52 = .ok (.iload 5, 2) := by decide +kernel
theorem dX4_queueAt_54 : decode cX4_queueAt 54 = .ok (.invokevirtual 148, 3) := by decide +kernel
theorem dX4_queueAt_57 : decode cX4_queueAt 57 = .ok (.iconst 1, 1) := by decide +kernel
theorem dX4_queueAt_58 : decode cX4_queueAt 58 = .ok (.if_icmp .ne 14, 3) := by decide +kernel
theorem dX4_queueAt_61 : decode cX4_queueAt 61 = .ok (.iload_n 3, 1) := by decide +kernel
theorem dX4_queueAt_62 : decode cX4_queueAt 62 = .ok (.iload_n 2, 1) := by decide +kernel
theorem dX4_queueAt_63 : decode cX4_queueAt 63 = .ok (.if_icmp .ne 6, 3) := by decide +kernel
theorem dX4_queueAt_66 : decode cX4_queueAt 66 = .ok (.iload 5, 2) := by decide +kernel
theorem dX4_queueAt_68 : decode cX4_queueAt 68 = .ok (.ireturn, 1) := by decide +kernel
theorem dX4_queueAt_69 : decode cX4_queueAt 69 = .ok (.iinc 3 1, 3) := by decide +kernel
theorem dX4_queueAt_72 : decode cX4_queueAt 72 = .ok (.iinc 4 1, 3) := by decide +kernel
theorem dX4_queueAt_75 : decode cX4_queueAt 75 = .ok (.goto (-65), 3) := by decide +kernel
theorem dX4_queueAt_78 : decode cX4_queueAt 78 = .ok (.iconst (-1), 1) := by decide +kernel
theorem dX4_queueAt_79 : decode cX4_queueAt 79 = .ok (.ireturn, 1) := by decide +kernel
theorem dX4_firstWaiting_0 : decode cX4_firstWaiting 0 = .ok (.aload_n 0, 1) := by decide +kernel
theorem dX4_firstWaiting_1 : decode cX4_firstWaiting 1 = .ok (.getfield 10, 3) := by decide +kernel
theorem dX4_firstWaiting_4 : decode cX4_firstWaiting 4 = .ok (.invokevirtual 192, 3) := by decide +kernel
theorem dX4_firstWaiting_7 : decode cX4_firstWaiting 7 = .ok (.ireturn, 1) := by decide +kernel
theorem dX4_ridingTo_0 : decode cX4_ridingTo 0 = .ok (.aload_n 0, 1) := by decide +kernel
theorem dX4_ridingTo_1 : decode cX4_ridingTo 1 = .ok (.iload_n 1, 1) := by decide +kernel
theorem dX4_ridingTo_2 : decode cX4_ridingTo 2 = .ok (.invokevirtual 183, 3) := by decide +kernel
theorem dX4_ridingTo_5 : decode cX4_ridingTo 5 = .ok (.iconst 0, 1) := by decide +kernel
theorem dX4_ridingTo_6 : decode cX4_ridingTo 6 = .ok (.istore_n 2, 1) := by decide +kernel
theorem dX4_ridingTo_7 : decode cX4_ridingTo 7 = .ok (.iconst 0, 1) := by decide +kernel
theorem dX4_ridingTo_8 : decode cX4_ridingTo 8 = .ok (.istore_n 3, 1) := by decide +kernel
theorem dX4_ridingTo_9 : decode cX4_ridingTo 9 = .ok (.iload_n 3, 1) := by decide +kernel
theorem dX4_ridingTo_10 : decode cX4_ridingTo 10 = .ok (.aload_n 0, 1) := by decide +kernel
theorem dX4_ridingTo_11 : decode cX4_ridingTo 11 = .ok (.getfield 10, 3) := by decide +kernel
theorem dX4_ridingTo_14 : decode cX4_ridingTo 14 = .ok (.getfield 83, 3) := by decide +kernel
theorem dX4_ridingTo_17 : decode cX4_ridingTo 17 = .ok (.if_icmp .ge 37, 3) := by decide +kernel
theorem dX4_ridingTo_20 : decode cX4_ridingTo 20 = .ok (.aload_n 0, 1) := by decide +kernel
theorem dX4_ridingTo_21 : decode cX4_ridingTo 21 = .ok (.getfield 10, 3) := by decide +kernel
theorem dX4_ridingTo_24 : decode cX4_ridingTo 24 = .ok (.getfield 155, 3) := by decide +kernel
theorem dX4_ridingTo_27 : decode cX4_ridingTo 27 = .ok (.iload_n 3, 1) := by decide +kernel
theorem dX4_ridingTo_28 : decode cX4_ridingTo 28 = .ok (.iaload, 1) := by decide +kernel
theorem dX4_ridingTo_29 : decode cX4_ridingTo 29 = .ok (.iload_n 1, 1) := by decide +kernel
theorem dX4_ridingTo_30 : decode cX4_ridingTo 30 = .ok (.if_icmp .ne 18, 3) := by decide +kernel
theorem dX4_ridingTo_33 : decode cX4_ridingTo 33 = .ok (.aload_n 0, 1) := by decide +kernel
theorem dX4_ridingTo_34 : decode cX4_ridingTo 34 = .ok (.getfield 10, 3) := by decide +kernel
theorem dX4_ridingTo_37 : decode cX4_ridingTo 37 = .ok (.iload_n 3, 1) := by decide +kernel
theorem dX4_ridingTo_38 : decode cX4_ridingTo 38 = .ok (.invokevirtual 148, 3) := by decide +kernel
theorem dX4_ridingTo_41 : decode cX4_ridingTo 41 = .ok (.iconst 2, 1) := by decide +kernel
theorem dX4_ridingTo_42 : decode cX4_ridingTo 42 = .ok (.if_icmp .ne 6, 3) := by decide +kernel
theorem dX4_ridingTo_45 : decode cX4_ridingTo 45 = .ok (.iinc 2 1, 3) := by decide +kernel
theorem dX4_ridingTo_48 : decode cX4_ridingTo 48 = .ok (.iinc 3 1, 3) := by decide +kernel
theorem dX4_ridingTo_51 : decode cX4_ridingTo 51 = .ok (.goto (-42), 3) := by decide +kernel
theorem dX4_ridingTo_54 : decode cX4_ridingTo 54 = .ok (.iload_n 2, 1) := by decide +kernel
theorem dX4_ridingTo_55 : decode cX4_ridingTo 55 = .ok (.ireturn, 1) := by decide +kernel
theorem dX4_busiestOrigin_0 : decode cX4_busiestOrigin 0 = .ok (.iconst (-1), 1) := by decide +kernel
theorem dX4_busiestOrigin_1 : decode cX4_busiestOrigin 1 = .ok (.istore_n 1, 1) := by decide +kernel
theorem dX4_busiestOrigin_2 : decode cX4_busiestOrigin 2 = .ok (.iconst 0, 1) := by decide +kernel
theorem dX4_busiestOrigin_3 : decode cX4_busiestOrigin 3 = .ok (.istore_n 2, 1) := by decide +kernel
theorem dX4_busiestOrigin_4 : decode cX4_busiestOrigin 4 = .ok (.iconst 0, 1) := by decide +kernel
theorem dX4_busiestOrigin_5 : decode cX4_busiestOrigin 5 = .ok (.istore_n 3, 1) := by decide +kernel
theorem dX4_busiestOrigin_6 : decode cX4_busiestOrigin 6 = .ok (.iload_n 3, 1) := by decide +kernel
theorem dX4_busiestOrigin_7 : decode cX4_busiestOrigin 7 = .ok (.aload_n 0, 1) := by decide +kernel
theorem dX4_busiestOrigin_8 : decode cX4_busiestOrigin 8 = .ok (.getfield 10, 3) := by decide +kernel
theorem dX4_busiestOrigin_11 : decode cX4_busiestOrigin 11 = .ok (.getfield 100, 3) := by decide +kernel
theorem dX4_busiestOrigin_14 : decode cX4_busiestOrigin 14 = .ok (.if_icmp .ge 61, 3) := by decide +kernel
theorem dX4_busiestOrigin_17 : decode cX4_busiestOrigin 17 = .ok (.iconst 0, 1) := by decide +kernel
theorem dX4_busiestOrigin_18 : decode cX4_busiestOrigin 18 = .ok (.istore 4, 2) := by decide +kernel
theorem dX4_busiestOrigin_20 : decode cX4_busiestOrigin 20 = .ok (.iconst 0, 1) := by decide +kernel
theorem dX4_busiestOrigin_21 : decode cX4_busiestOrigin 21 = .ok (.istore 5, 2) := by decide +kernel
theorem dX4_busiestOrigin_23 : decode cX4_busiestOrigin 23 = .ok (.iload 5, 2) := by decide +kernel
theorem dX4_busiestOrigin_25 : decode cX4_busiestOrigin 25 = .ok (.aload_n 0, 1) := by decide +kernel
theorem dX4_busiestOrigin_26 : decode cX4_busiestOrigin 26 = .ok (.getfield 10, 3) := by decide +kernel
theorem dX4_busiestOrigin_29 : decode cX4_busiestOrigin 29 = .ok (.getfield 83, 3) := by decide +kernel
theorem dX4_busiestOrigin_32 : decode cX4_busiestOrigin 32 = .ok (.if_icmp .ge 26, 3) := by decide +kernel
theorem dX4_busiestOrigin_35 : decode cX4_busiestOrigin 35 = .ok (.aload_n 0, 1) := by decide +kernel
theorem dX4_busiestOrigin_36 : decode cX4_busiestOrigin 36 = .ok (.getfield 10, 3) := by decide +kernel
theorem dX4_busiestOrigin_39 : decode cX4_busiestOrigin 39 = .ok (.getfield 151, 3) := by decide +kernel
theorem dX4_busiestOrigin_42 : decode cX4_busiestOrigin 42 = .ok (.iload 5, 2) := by decide +kernel
theorem dX4_busiestOrigin_44 : decode cX4_busiestOrigin 44 = .ok (.iaload, 1) := by decide +kernel
theorem dX4_busiestOrigin_45 : decode cX4_busiestOrigin 45 = .ok (.iload_n 3, 1) := by decide +kernel
theorem dX4_busiestOrigin_46 : decode cX4_busiestOrigin 46 = .ok (.if_icmp .ne 6, 3) := by decide +kernel
theorem dX4_busiestOrigin_49 : decode cX4_busiestOrigin 49 = .ok (.iinc 4 1, 3) := by decide +kernel
theorem dX4_busiestOrigin_52 : decode cX4_busiestOrigin 52 = .ok (.iinc 5 1, 3) := by decide +kernel
theorem dX4_busiestOrigin_55 : decode cX4_busiestOrigin 55 = .ok (.goto (-32), 3) := by decide +kernel
theorem dX4_busiestOrigin_58 : decode cX4_busiestOrigin 58 = .ok (.iload 4, 2) := by decide +kernel
theorem dX4_busiestOrigin_60 : decode cX4_busiestOrigin 60 = .ok (.iload_n 2, 1) := by decide +kernel
theorem dX4_busiestOrigin_61 : decode cX4_busiestOrigin 61 = .ok (.if_icmp .le 8, 3) := by decide +kernel
theorem dX4_busiestOrigin_64 : decode cX4_busiestOrigin 64 = .ok (.iload 4, 2) := by decide +kernel
theorem dX4_busiestOrigin_66 : decode cX4_busiestOrigin 66 = .ok (.istore_n 2, 1) := by decide +kernel
theorem dX4_busiestOrigin_67 : decode cX4_busiestOrigin 67 = .ok (.iload_n 3, 1) := by decide +kernel
theorem dX4_busiestOrigin_68 : decode cX4_busiestOrigin 68 = .ok (.istore_n 1, 1) := by decide +kernel
theorem dX4_busiestOrigin_69 : decode cX4_busiestOrigin 69 = .ok (.iinc 3 1, 3) := by decide +kernel
theorem dX4_busiestOrigin_72 : decode cX4_busiestOrigin 72 = .ok (.goto (-66), 3) := by decide +kernel
theorem dX4_busiestOrigin_75 : decode cX4_busiestOrigin 75 = .ok (.iload_n 1, 1) := by decide +kernel
theorem dX4_busiestOrigin_76 : decode cX4_busiestOrigin 76 = .ok (.ireturn, 1) := by decide +kernel
theorem dX4_passengersBetween_0 : decode cX4_passengersBetween 0 = .ok (.aload_n 0, 1) := by decide +kernel
theorem dX4_passengersBetween_1 : decode cX4_passengersBetween 1 = .ok (.iload_n 1, 1) := by decide +kernel
theorem dX4_passengersBetween_2 : decode cX4_passengersBetween 2 = .ok (.invokevirtual 183, 3) := by decide +kernel
theorem dX4_passengersBetween_5 : decode cX4_passengersBetween 5 = .ok (.aload_n 0, 1) := by decide +kernel
theorem dX4_passengersBetween_6 : decode cX4_passengersBetween 6 = .ok (.iload_n 2, 1) := by decide +kernel
theorem dX4_passengersBetween_7 : decode cX4_passengersBetween 7 = .ok (.invokevirtual 183, 3) := by decide +kernel
theorem dX4_passengersBetween_10 : decode cX4_passengersBetween 10 = .ok (.iconst 0, 1) := by decide +kernel
theorem dX4_passengersBetween_11 : decode cX4_passengersBetween 11 = .ok (.istore_n 3, 1) := by decide +kernel
theorem dX4_passengersBetween_12 : decode cX4_passengersBetween 12 = .ok (.iconst 0, 1) := by decide +kernel
theorem dX4_passengersBetween_13 : decode cX4_passengersBetween 13 = .ok (.istore 4, 2) := by decide +kernel
theorem dX4_passengersBetween_15 : decode cX4_passengersBetween 15 = .ok (.iload 4, 2) := by decide +kernel
theorem dX4_passengersBetween_17 : decode cX4_passengersBetween 17 = .ok (.aload_n 0, 1) := by decide +kernel
theorem dX4_passengersBetween_18 : decode cX4_passengersBetween 18 = .ok (.getfield 10, 3) := by decide +kernel
theorem dX4_passengersBetween_21 : decode cX4_passengersBetween 21 = .ok (.getfield 83, 3) := by decide +kernel
theorem dX4_passengersBetween_24 : decode cX4_passengersBetween 24 = .ok (.if_icmp .ge 40, 3) := by decide +kernel
theorem dX4_passengersBetween_27 : decode cX4_passengersBetween 27 = .ok (.aload_n 0, 1) := by decide +kernel
theorem dX4_passengersBetween_28 : decode cX4_passengersBetween 28 = .ok (.getfield 10, 3) := by decide +kernel
theorem dX4_passengersBetween_31 : decode cX4_passengersBetween 31 = .ok (.getfield 151, 3) := by decide +kernel
theorem dX4_passengersBetween_34 : decode cX4_passengersBetween 34 = .ok (.iload 4, 2) := by decide +kernel
theorem dX4_passengersBetween_36 : decode cX4_passengersBetween 36 = .ok (.iaload, 1) := by decide +kernel
theorem dX4_passengersBetween_37 : decode cX4_passengersBetween 37 = .ok (.iload_n 1, 1) := by decide +kernel
theorem dX4_passengersBetween_38 : decode cX4_passengersBetween 38 = .ok (.if_icmp .ne 20, 3) := by decide +kernel
theorem dX4_passengersBetween_41 : decode cX4_passengersBetween 41 = .ok (.aload_n 0, 1) := by decide +kernel
theorem dX4_passengersBetween_42 : decode cX4_passengersBetween 42 = .ok (.getfield 10, 3) := by decide +kernel
theorem dX4_passengersBetween_45 : decode cX4_passengersBetween 45 = .ok (.getfield 155, 3) := by decide +kernel
theorem dX4_passengersBetween_48 : decode cX4_passengersBetween 48 = .ok (.iload 4, 2) := by decide +kernel
theorem dX4_passengersBetween_50 : decode cX4_passengersBetween 50 = .ok (.iaload, 1) := by decide +kernel
theorem dX4_passengersBetween_51 : decode cX4_passengersBetween 51 = .ok (.iload_n 2, 1) := by decide +kernel
theorem dX4_passengersBetween_52 : decode cX4_passengersBetween 52 = .ok (.if_icmp .ne 6, 3) := by decide +kernel
theorem dX4_passengersBetween_55 : decode cX4_passengersBetween 55 = .ok (.iinc 3 1, 3) := by decide +kernel
theorem dX4_passengersBetween_58 : decode cX4_passengersBetween 58 = .ok (.iinc 4 1, 3) := by decide +kernel
theorem dX4_passengersBetween_61 : decode cX4_passengersBetween 61 = .ok (.goto (-46), 3) := by decide +kernel
theorem dX4_passengersBetween_64 : decode cX4_passengersBetween 64 = .ok (.iload_n 3, 1) := by decide +kernel
theorem dX4_passengersBetween_65 : decode cX4_passengersBetween 65 = .ok (.ireturn, 1) := by decide +kernel
theorem dX4_nextArrival_0 : decode cX4_nextArrival 0 = .ok (.iconst (-1), 1) := by decide +kernel
theorem dX4_nextArrival_1 : decode cX4_nextArrival 1 = .ok (.istore_n 1, 1) := by decide +kernel
theorem dX4_nextArrival_2 : decode cX4_nextArrival 2 = .ok (.iconst 0, 1) := by decide +kernel
theorem dX4_nextArrival_3 : decode cX4_nextArrival 3 = .ok (.istore_n 2, 1) := by decide +kernel
theorem dX4_nextArrival_4 : decode cX4_nextArrival 4 = .ok (.iload_n 2, 1) := by decide +kernel
theorem dX4_nextArrival_5 : decode cX4_nextArrival 5 = .ok (.aload_n 0, 1) := by decide +kernel
theorem dX4_nextArrival_6 : decode cX4_nextArrival 6 = .ok (.getfield 10, 3) := by decide +kernel
theorem dX4_nextArrival_9 : decode cX4_nextArrival 9 = .ok (.getfield 83, 3) := by decide +kernel
theorem dX4_nextArrival_12 : decode cX4_nextArrival 12 = .ok (.if_icmp .ge 42, 3) := by decide +kernel
theorem dX4_nextArrival_15 : decode cX4_nextArrival 15 = .ok (.aload_n 0, 1) := by decide +kernel
theorem dX4_nextArrival_16 : decode cX4_nextArrival 16 = .ok (.getfield 10, 3) := by decide +kernel
theorem dX4_nextArrival_19 : decode cX4_nextArrival 19 = .ok (.getfield 158, 3) := by decide +kernel
theorem dX4_nextArrival_22 : decode cX4_nextArrival 22 = .ok (.iload_n 2, 1) := by decide +kernel
theorem dX4_nextArrival_23 : decode cX4_nextArrival 23 = .ok (.iaload, 1) := by decide +kernel
theorem dX4_nextArrival_24 : decode cX4_nextArrival 24 = .ok (.istore_n 3, 1) := by decide +kernel
theorem dX4_nextArrival_25 : decode cX4_nextArrival 25 = .ok (.iload_n 3, 1) := by decide +kernel
theorem dX4_nextArrival_26 : decode cX4_nextArrival 26 = .ok (.aload_n 0, 1) := by decide +kernel
theorem dX4_nextArrival_27 : decode cX4_nextArrival 27 = .ok (.getfield 10, 3) := by decide +kernel
theorem dX4_nextArrival_30 : decode cX4_nextArrival 30 = .ok (.getfield 109, 3) := by decide +kernel
theorem dX4_nextArrival_33 : decode cX4_nextArrival 33 = .ok (.if_icmp .le 15, 3) := by decide +kernel
theorem dX4_nextArrival_36 : decode cX4_nextArrival 36 = .ok (.iload_n 1, 1) := by decide +kernel
theorem dX4_nextArrival_37 : decode cX4_nextArrival 37 = .ok (.iconst (-1), 1) := by decide +kernel
theorem dX4_nextArrival_38 : decode cX4_nextArrival 38 = .ok (.if_icmp .eq 8, 3) := by decide +kernel
theorem dX4_nextArrival_41 : decode cX4_nextArrival 41 = .ok (.iload_n 3, 1) := by decide +kernel
theorem dX4_nextArrival_42 : decode cX4_nextArrival 42 = .ok (.iload_n 1, 1) := by decide +kernel
theorem dX4_nextArrival_43 : decode cX4_nextArrival 43 = .ok (.if_icmp .ge 5, 3) := by decide +kernel
theorem dX4_nextArrival_46 : decode cX4_nextArrival 46 = .ok (.iload_n 3, 1) := by decide +kernel
theorem dX4_nextArrival_47 : decode cX4_nextArrival 47 = .ok (.istore_n 1, 1) := by decide +kernel
theorem dX4_nextArrival_48 : decode cX4_nextArrival 48 = .ok (.iinc 2 1, 3) := by decide +kernel
theorem dX4_nextArrival_51 : decode cX4_nextArrival 51 = .ok (.goto (-47), 3) := by decide +kernel
theorem dX4_nextArrival_54 : decode cX4_nextArrival 54 = .ok (.iload_n 1, 1) := by decide +kernel
theorem dX4_nextArrival_55 : decode cX4_nextArrival 55 = .ok (.ireturn, 1) := by decide +kernel
theorem dX4_totalRide_0 : decode cX4_totalRide 0 = .ok (.iconst 0, 1) := by decide +kernel
theorem dX4_totalRide_1 : decode cX4_totalRide 1 = .ok (.istore_n 1, 1) := by decide +kernel
theorem dX4_totalRide_2 : decode cX4_totalRide 2 = .ok (.iconst 0, 1) := by decide +kernel
theorem dX4_totalRide_3 : decode cX4_totalRide 3 = .ok (.istore_n 2, 1) := by decide +kernel
theorem dX4_totalRide_4 : decode cX4_totalRide 4 = .ok (.iload_n 2, 1) := by decide +kernel
theorem dX4_totalRide_5 : decode cX4_totalRide 5 = .ok (.aload_n 0, 1) := by decide +kernel
theorem dX4_totalRide_6 : decode cX4_totalRide 6 = .ok (.getfield 10, 3) := by decide +kernel
theorem dX4_totalRide_9 : decode cX4_totalRide 9 = .ok (.getfield 83, 3) := by decide +kernel
theorem dX4_totalRide_12 : decode cX4_totalRide 12 = .ok (.if_icmp .ge 24, 3) := by decide +kernel
theorem dX4_totalRide_15 : decode cX4_totalRide 15 = .ok (.iload_n 1, 1) := by decide +kernel
theorem dX4_totalRide_16 : decode cX4_totalRide 16 = .ok (.aload_n 0, 1) := by decide +kernel
theorem dX4_totalRide_17 : decode cX4_totalRide 17 = .ok (.getfield 10, 3) := by decide +kernel
theorem dX4_totalRide_20 : decode cX4_totalRide 20 = .ok (.iload_n 2, 1) := by decide +kernel
theorem dX4_totalRide_21 : decode cX4_totalRide 21 = .ok (.invokevirtual 170, 3) := by decide +kernel
theorem dX4_totalRide_24 : decode cX4_totalRide 24 = .ok (.iconst 0, 1) := by decide +kernel
theorem dX4_totalRide_25 : decode cX4_totalRide 25 = .ok (.invokestatic 195, 3) := by decide +kernel
theorem dX4_totalRide_28 : decode cX4_totalRide 28 = .ok (.iadd, 1) := by decide +kernel
theorem dX4_totalRide_29 : decode cX4_totalRide 29 = .ok (.istore_n 1, 1) := by decide +kernel
theorem dX4_totalRide_30 : decode cX4_totalRide 30 = .ok (.iinc 2 1, 3) := by decide +kernel
theorem dX4_totalRide_33 : decode cX4_totalRide 33 = .ok (.goto (-29), 3) := by decide +kernel
theorem dX4_totalRide_36 : decode cX4_totalRide 36 = .ok (.iload_n 1, 1) := by decide +kernel
theorem dX4_totalRide_37 : decode cX4_totalRide 37 = .ok (.ireturn, 1) := by decide +kernel
theorem dX4_longestRide_0 : decode cX4_longestRide 0 = .ok (.iconst 0, 1) := by decide +kernel
theorem dX4_longestRide_1 : decode cX4_longestRide 1 = .ok (.istore_n 1, 1) := by decide +kernel
theorem dX4_longestRide_2 : decode cX4_longestRide 2 = .ok (.iconst 0, 1) := by decide +kernel
theorem dX4_longestRide_3 : decode cX4_longestRide 3 = .ok (.istore_n 2, 1) := by decide +kernel
theorem dX4_longestRide_4 : decode cX4_longestRide 4 = .ok (.iload_n 2, 1) := by decide +kernel
theorem dX4_longestRide_5 : decode cX4_longestRide 5 = .ok (.aload_n 0, 1) := by decide +kernel
theorem dX4_longestRide_6 : decode cX4_longestRide 6 = .ok (.getfield 10, 3) := by decide +kernel
theorem dX4_longestRide_9 : decode cX4_longestRide 9 = .ok (.getfield 83, 3) := by decide +kernel
theorem dX4_longestRide_12 : decode cX4_longestRide 12 = .ok (.if_icmp .ge 22, 3) := by decide +kernel
theorem dX4_longestRide_15 : decode cX4_longestRide 15 = .ok (.iload_n 1, 1) := by decide +kernel
theorem dX4_longestRide_16 : decode cX4_longestRide 16 = .ok (.aload_n 0, 1) := by decide +kernel
theorem dX4_longestRide_17 : decode cX4_longestRide 17 = .ok (.getfield 10, 3) := by decide +kernel
theorem dX4_longestRide_20 : decode cX4_longestRide 20 = .ok (.iload_n 2, 1) := by decide +kernel
theorem dX4_longestRide_21 : decode cX4_longestRide 21 = .ok (.invokevirtual 170, 3) := by decide +kernel
theorem dX4_longestRide_24 : decode cX4_longestRide 24 = .ok (.invokestatic 195, 3) := by decide +kernel
theorem dX4_longestRide_27 : decode cX4_longestRide 27 = .ok (.istore_n 1, 1) := by decide +kernel
theorem dX4_longestRide_28 : decode cX4_longestRide 28 = .ok (.iinc 2 1, 3) := by decide +kernel
theorem dX4_longestRide_31 : decode cX4_longestRide 31 = .ok (.goto (-27), 3) := by decide +kernel
theorem dX4_longestRide_34 : decode cX4_longestRide 34 = .ok (.iload_n 1, 1) := by decide +kernel
theorem dX4_longestRide_35 : decode cX4_longestRide 35 = .ok (.ireturn, 1) := by decide +kernel
theorem dX4_lastDone_0 : decode cX4_lastDone 0 = .ok (.iconst (-1), 1) := by decide +kernel
theorem dX4_lastDone_1 : decode cX4_lastDone 1 = .ok (.istore_n 1, 1) := by decide +kernel
theorem dX4_lastDone_2 : decode cX4_lastDone 2 = .ok (.iconst (-1), 1) := by decide +kernel
theorem dX4_lastDone_3 : decode cX4_lastDone 3 = .ok (.istore_n 2, 1) := by decide +kernel
theorem dX4_lastDone_4 : decode cX4_lastDone 4 = .ok (.iconst 0, 1) := by decide +kernel
theorem dX4_lastDone_5 : decode cX4_lastDone 5 = .ok (.istore_n 3, 1) := by decide +kernel
theorem dX4_lastDone_6 : decode cX4_lastDone 6 = .ok (.iload_n 3, 1) := by decide +kernel
theorem dX4_lastDone_7 : decode cX4_lastDone 7 = .ok (.aload_n 0, 1) := by decide +kernel
theorem dX4_lastDone_8 : decode cX4_lastDone 8 = .ok (.getfield 10, 3) := by decide +kernel
theorem dX4_lastDone_11 : decode cX4_lastDone 11 = .ok (.getfield 83, 3) := by decide +kernel
theorem dX4_lastDone_14 : decode cX4_lastDone 14 = .ok (.if_icmp .ge 34, 3) := by decide +kernel
theorem dX4_lastDone_17 : decode cX4_lastDone 17 = .ok (.aload_n 0, 1) := by decide +kernel
theorem dX4_lastDone_18 : decode cX4_lastDone 18 = .ok (.getfield 10, 3) := by decide +kernel
theorem dX4_lastDone_21 : decode cX4_lastDone 21 = .ok (.getfield 164, 3) := by decide +kernel
theorem dX4_lastDone_24 : decode cX4_lastDone 24 = .ok (.iload_n 3, 1) := by decide +kernel
theorem dX4_lastDone_25 : decode cX4_lastDone 25 = .ok (.iaload, 1) := by decide +kernel
theorem dX4_lastDone_26 : decode cX4_lastDone 26 = .ok (.iload_n 2, 1) := by decide +kernel
theorem dX4_lastDone_27 : decode cX4_lastDone 27 = .ok (.if_icmp .le 15, 3) := by decide +kernel
theorem dX4_lastDone_30 : decode cX4_lastDone 30 = .ok (.aload_n 0, 1) := by decide +kernel
theorem dX4_lastDone_31 : decode cX4_lastDone 31 = .ok (.getfield 10, 3) := by decide +kernel
theorem dX4_lastDone_34 : decode cX4_lastDone 34 = .ok (.getfield 164, 3) := by decide +kernel
theorem dX4_lastDone_37 : decode cX4_lastDone 37 = .ok (.iload_n 3, 1) := by decide +kernel
theorem dX4_lastDone_38 : decode cX4_lastDone 38 = .ok (.iaload, 1) := by decide +kernel
theorem dX4_lastDone_39 : decode cX4_lastDone 39 = .ok (.istore_n 2, 1) := by decide +kernel
theorem dX4_lastDone_40 : decode cX4_lastDone 40 = .ok (.iload_n 3, 1) := by decide +kernel
theorem dX4_lastDone_41 : decode cX4_lastDone 41 = .ok (.istore_n 1, 1) := by decide +kernel
theorem dX4_lastDone_42 : decode cX4_lastDone 42 = .ok (.iinc 3 1, 3) := by decide +kernel
theorem dX4_lastDone_45 : decode cX4_lastDone 45 = .ok (.goto (-39), 3) := by decide +kernel
theorem dX4_lastDone_48 : decode cX4_lastDone 48 = .ok (.iload_n 1, 1) := by decide +kernel
theorem dX4_lastDone_49 : decode cX4_lastDone 49 = .ok (.ireturn, 1) := by decide +kernel
theorem dX4_movingShare_0 : decode cX4_movingShare 0 = .ok (.aload_n 0, 1) := by decide +kernel
theorem dX4_movingShare_1 : decode cX4_movingShare 1 = .ok (.getfield 10, 3) := by decide +kernel
theorem dX4_movingShare_4 : decode cX4_movingShare 4 = .ok (.getfield 109, 3) := by decide +kernel
theorem dX4_movingShare_7 : decode cX4_movingShare 7 = .ok (.ifCond .ne 5, 3) := by decide +kernel
theorem dX4_movingShare_10 : decode cX4_movingShare 10 = .ok (.fconst 0, 1) := by decide +kernel
theorem dX4_movingShare_11 : decode cX4_movingShare 11 = .ok (.freturn, 1) := by decide +kernel
theorem dX4_movingShare_12 : decode cX4_movingShare 12 = .ok (.aload_n 0, 1) := by decide +kernel
theorem dX4_movingShare_13 : decode cX4_movingShare 13 = .ok (.getfield 10, 3) := by decide +kernel
theorem dX4_movingShare_16 : decode cX4_movingShare 16 = .ok (.getfield 133, 3) := by decide +kernel
theorem dX4_movingShare_19 : decode cX4_movingShare 19 = .ok (.i2f, 1) := by decide +kernel
theorem dX4_movingShare_20 : decode cX4_movingShare 20 = .ok (.aload_n 0, 1) := by decide +kernel
theorem dX4_movingShare_21 : decode cX4_movingShare 21 = .ok (.getfield 10, 3) := by decide +kernel
theorem dX4_movingShare_24 : decode cX4_movingShare 24 = .ok (.getfield 109, 3) := by decide +kernel
theorem dX4_movingShare_27 : decode cX4_movingShare 27 = .ok (.i2f, 1) := by decide +kernel
theorem dX4_movingShare_28 : decode cX4_movingShare 28 = .ok (.fdiv, 1) := by decide +kernel
theorem dX4_movingShare_29 : decode cX4_movingShare 29 = .ok (.freturn, 1) := by decide +kernel
theorem dX4_totalWait_0 : decode cX4_totalWait 0 = .ok (.aload_n 0, 1) := by decide +kernel
theorem dX4_totalWait_1 : decode cX4_totalWait 1 = .ok (.getfield 10, 3) := by decide +kernel
theorem dX4_totalWait_4 : decode cX4_totalWait 4 = .ok (.invokevirtual 199, 3) := by decide +kernel
theorem dX4_totalWait_7 : decode cX4_totalWait 7 = .ok (.ireturn, 1) := by decide +kernel
theorem dX4_longestWait_0 : decode cX4_longestWait 0 = .ok (.aload_n 0, 1) := by decide +kernel
theorem dX4_longestWait_1 : decode cX4_longestWait 1 = .ok (.getfield 10, 3) := by decide +kernel
theorem dX4_longestWait_4 : decode cX4_longestWait 4 = .ok (.invokevirtual 202, 3) := by decide +kernel
theorem dX4_longestWait_7 : decode cX4_longestWait 7 = .ok (.ireturn, 1) := by decide +kernel
theorem dX4_meanWait_0 : decode cX4_meanWait 0 = .ok (.aload_n 0, 1) := by decide +kernel
theorem dX4_meanWait_1 : decode cX4_meanWait 1 = .ok (.getfield 10, 3) := by decide +kernel
theorem dX4_meanWait_4 : decode cX4_meanWait 4 = .ok (.getfield 119, 3) := by decide +kernel
theorem dX4_meanWait_7 : decode cX4_meanWait 7 = .ok (.aload_n 0, 1) := by decide +kernel
theorem dX4_meanWait_8 : decode cX4_meanWait 8 = .ok (.getfield 10, 3) := by decide +kernel
theorem dX4_meanWait_11 : decode cX4_meanWait 11 = .ok (.getfield 205, 3) := by decide +kernel
theorem dX4_meanWait_14 : decode cX4_meanWait 14 = .ok (.iadd, 1) := by decide +kernel
theorem dX4_meanWait_15 : decode cX4_meanWait 15 = .ok (.istore_n 1, 1) := by decide +kernel
theorem dX4_meanWait_16 : decode cX4_meanWait 16 = .ok (.iload_n 1, 1) := by decide +kernel
theorem dX4_meanWait_17 : decode cX4_meanWait 17 = .ok (.ifCond .ne 5, 3) := by decide +kernel
theorem dX4_meanWait_20 : decode cX4_meanWait 20 = .ok (.dconst 0, 1) := by decide +kernel
theorem dX4_meanWait_21 : decode cX4_meanWait 21 = .ok (.dreturn, 1) := by decide +kernel
theorem dX4_meanWait_22 : decode cX4_meanWait 22 = .ok (.aload_n 0, 1) := by decide +kernel
theorem dX4_meanWait_23 : decode cX4_meanWait 23 = .ok (.getfield 10, 3) := by decide +kernel
theorem dX4_meanWait_26 : decode cX4_meanWait 26 = .ok (.invokevirtual 199, 3) := by decide +kernel
theorem dX4_meanWait_29 : decode cX4_meanWait 29 = .ok (.i2d, 1) := by decide +kernel
theorem dX4_meanWait_30 : decode cX4_meanWait 30 = .ok (.iload_n 1, 1) := by decide +kernel
theorem dX4_meanWait_31 : decode cX4_meanWait 31 = .ok (.i2d, 1) := by decide +kernel
theorem dX4_meanWait_32 : decode cX4_meanWait 32 = .ok (.ddiv, 1) := by decide +kernel
theorem dX4_meanWait_33 : decode cX4_meanWait 33 = .ok (.dreturn, 1) := by decide +kernel
theorem dX4_isFinished_0 : decode cX4_isFinished 0 = .ok (.aload_n 0, 1) := by decide +kernel
theorem dX4_isFinished_1 : decode cX4_isFinished 1 = .ok (.getfield 10, 3) := by decide +kernel
theorem dX4_isFinished_4 : decode cX4_isFinished 4 = .ok (.invokevirtual 208, 3) := by decide +kernel
theorem dX4_isFinished_7 : decode cX4_isFinished 7 = .ok (.ireturn, 1) := by decide +kernel
theorem dX4_ticksToFinish_0 : decode cX4_ticksToFinish 0 = .ok (.aload_n 0, 1) := by decide +kernel
theorem dX4_ticksToFinish_1 : decode cX4_ticksToFinish 1 = .ok (.aload_n 0, 1) := by decide +kernel
theorem dX4_ticksToFinish_2 : decode cX4_ticksToFinish 2 = .ok (.getfield 10, 3) := by decide +kernel
theorem dX4_ticksToFinish_5 : decode cX4_ticksToFinish 5 = .ok (.getfield 106, 3) := by decide +kernel
theorem dX4_ticksToFinish_8 : decode cX4_ticksToFinish 8 = .ok (.aload_n 0, 1) := by decide +kernel
theorem dX4_ticksToFinish_9 : decode cX4_ticksToFinish 9 = .ok (.getfield 10, 3) := by decide +kernel
theorem dX4_ticksToFinish_12 : decode cX4_ticksToFinish 12 = .ok (.getfield 103, 3) := by decide +kernel
theorem dX4_ticksToFinish_15 : decode cX4_ticksToFinish 15 = .ok (.invokevirtual 212, 3) := by decide +kernel
theorem dX4_ticksToFinish_18 : decode cX4_ticksToFinish 18 = .ok (.ireturn, 1) := by decide +kernel
theorem dX4_ticksWithPolicy_0 : decode cX4_ticksWithPolicy 0 = .ok (.aload_n 0, 1) := by decide +kernel
theorem dX4_ticksWithPolicy_1 : decode cX4_ticksWithPolicy 1 = .ok (.iload_n 1, 1) := by decide +kernel
theorem dX4_ticksWithPolicy_2 : decode cX4_ticksWithPolicy 2 = .ok (.invokevirtual 126, 3) := by decide +kernel
theorem dX4_ticksWithPolicy_5 : decode cX4_ticksWithPolicy 5 = .ok (.aload_n 0, 1) := by decide +kernel
theorem dX4_ticksWithPolicy_6 : decode cX4_ticksWithPolicy 6 = .ok (.iload_n 1, 1) := by decide +kernel
theorem dX4_ticksWithPolicy_7 : decode cX4_ticksWithPolicy 7 = .ok (.aload_n 0, 1) := by decide +kernel
theorem dX4_ticksWithPolicy_8 : decode cX4_ticksWithPolicy 8 = .ok (.getfield 10, 3) := by decide +kernel
theorem dX4_ticksWithPolicy_11 : decode cX4_ticksWithPolicy 11 = .ok (.getfield 103, 3) := by decide +kernel
theorem dX4_ticksWithPolicy_14 : decode cX4_ticksWithPolicy 14 = .ok (.invokevirtual 212, 3) := by decide +kernel
theorem dX4_ticksWithPolicy_17 : decode cX4_ticksWithPolicy 17 = .ok (.ireturn, 1) := by decide +kernel
theorem dX4_waitWithPolicy_0 : decode cX4_waitWithPolicy 0 = .ok (.aload_n 0, 1) := by decide +kernel
theorem dX4_waitWithPolicy_1 : decode cX4_waitWithPolicy 1 = .ok (.iload_n 1, 1) := by decide +kernel
theorem dX4_waitWithPolicy_2 : decode cX4_waitWithPolicy 2 = .ok (.invokevirtual 126, 3) := by decide +kernel
theorem dX4_waitWithPolicy_5 : decode cX4_waitWithPolicy 5 = .ok (.aload_n 0, 1) := by decide +kernel
theorem dX4_waitWithPolicy_6 : decode cX4_waitWithPolicy 6 = .ok (.iload_n 1, 1) := by decide +kernel
theorem dX4_waitWithPolicy_7 : decode cX4_waitWithPolicy 7 = .ok (.invokevirtual 215, 3) := by decide +kernel
theorem dX4_waitWithPolicy_10 : decode cX4_waitWithPolicy 10 = .ok (.ireturn, 1) := by decide +kernel
theorem dX4_longestWaitWithPolicy_0 : decode cX4_longestWaitWithPolicy 0 = .ok (.aload_n 0, 1) := by decide +kernel
theorem dX4_longestWaitWithPolicy_1 : decode cX4_longestWaitWithPolicy 1 = .ok (.iload_n 1, 1) := by decide +kernel
theorem dX4_longestWaitWithPolicy_2 : decode cX4_longestWaitWithPolicy 2 = .ok (.invokevirtual 126, 3) := by decide +kernel
theorem dX4_longestWaitWithPolicy_5 : decode cX4_longestWaitWithPolicy 5 = .ok (.aload_n 0, 1) := by decide +kernel
theorem dX4_longestWaitWithPolicy_6 : decode cX4_longestWaitWithPolicy 6 = .ok (.iload_n 1, 1) := by decide +kernel
theorem dX4_longestWaitWithPolicy_7 : decode cX4_longestWaitWithPolicy 7 = .ok (.aload_n 0, 1) := by decide +kernel
theorem dX4_longestWaitWithPolicy_8 : decode cX4_longestWaitWithPolicy 8 = .ok (.getfield 10, 3) := by decide +kernel
theorem dX4_longestWaitWithPolicy_11 : decode cX4_longestWaitWithPolicy 11 = .ok (.getfield 103, 3) := by decide +kernel
theorem dX4_longestWaitWithPolicy_14 : decode cX4_longestWaitWithPolicy 14 = .ok (.invokevirtual 212, 3) := by decide +kernel
theorem dX4_longestWaitWithPolicy_17 : decode cX4_longestWaitWithPolicy 17 = .ok (.pop, 1) := by decide +kernel
theorem dX4_longestWaitWithPolicy_18 : decode cX4_longestWaitWithPolicy 18 = .ok (.aload_n 0, 1) := by decide +kernel
theorem dX4_longestWaitWithPolicy_19 : decode cX4_longestWaitWithPolicy 19 = .ok (.getfield 16, 3) := by decide +kernel
theorem dX4_longestWaitWithPolicy_22 : decode cX4_longestWaitWithPolicy 22 = .ok (.invokevirtual 202, 3) := by decide +kernel
theorem dX4_longestWaitWithPolicy_25 : decode cX4_longestWaitWithPolicy 25 = .ok (.ireturn, 1) := by decide +kernel
theorem dX4_bestPolicy_0 : decode cX4_bestPolicy 0 = .ok (.iconst 0, 1) := by decide +kernel
theorem dX4_bestPolicy_1 : decode cX4_bestPolicy 1 = .ok (.istore_n 1, 1) := by decide +kernel
theorem dX4_bestPolicy_2 : decode cX4_bestPolicy 2 = .ok (.aload_n 0, 1) := by decide +kernel
theorem dX4_bestPolicy_3 : decode cX4_bestPolicy 3 = .ok (.iconst 0, 1) := by decide +kernel
theorem dX4_bestPolicy_4 : decode cX4_bestPolicy 4 = .ok (.invokevirtual 215, 3) := by decide +kernel
theorem dX4_bestPolicy_7 : decode cX4_bestPolicy 7 = .ok (.istore_n 2, 1) := by decide +kernel
theorem dX4_bestPolicy_8 : decode cX4_bestPolicy 8 = .ok (.iconst 1, 1) := by decide +kernel
theorem dX4_bestPolicy_9 : decode cX4_bestPolicy 9 = .ok (.istore_n 3, 1) := by decide +kernel
theorem dX4_bestPolicy_10 : decode cX4_bestPolicy 10 = .ok (.iload_n 3, 1) := by decide +kernel
theorem dX4_bestPolicy_11 : decode cX4_bestPolicy 11 = .ok (.iconst 2, 1) := by decide +kernel
theorem dX4_bestPolicy_12 : decode cX4_bestPolicy 12 = .ok (.if_icmp .gt 27, 3) := by decide +kernel
theorem dX4_bestPolicy_15 : decode cX4_bestPolicy 15 = .ok (.aload_n 0, 1) := by decide +kernel
theorem dX4_bestPolicy_16 : decode cX4_bestPolicy 16 = .ok (.iload_n 3, 1) := by decide +kernel
theorem dX4_bestPolicy_17 : decode cX4_bestPolicy 17 = .ok (.invokevirtual 215, 3) := by decide +kernel
theorem dX4_bestPolicy_20 : decode cX4_bestPolicy 20 = .ok (.istore 4, 2) := by decide +kernel
theorem dX4_bestPolicy_22 : decode cX4_bestPolicy 22 = .ok (.iload 4, 2) := by decide +kernel
theorem dX4_bestPolicy_24 : decode cX4_bestPolicy 24 = .ok (.iload_n 2, 1) := by decide +kernel
theorem dX4_bestPolicy_25 : decode cX4_bestPolicy 25 = .ok (.if_icmp .ge 8, 3) := by decide +kernel
theorem dX4_bestPolicy_28 : decode cX4_bestPolicy 28 = .ok (.iload 4, 2) := by decide +kernel
theorem dX4_bestPolicy_30 : decode cX4_bestPolicy 30 = .ok (.istore_n 2, 1) := by decide +kernel
theorem dX4_bestPolicy_31 : decode cX4_bestPolicy 31 = .ok (.iload_n 3, 1) := by decide +kernel
theorem dX4_bestPolicy_32 : decode cX4_bestPolicy 32 = .ok (.istore_n 1, 1) := by decide +kernel
theorem dX4_bestPolicy_33 : decode cX4_bestPolicy 33 = .ok (.iinc 3 1, 3) := by decide +kernel
theorem dX4_bestPolicy_36 : decode cX4_bestPolicy 36 = .ok (.goto (-26), 3) := by decide +kernel
theorem dX4_bestPolicy_39 : decode cX4_bestPolicy 39 = .ok (.iload_n 1, 1) := by decide +kernel
theorem dX4_bestPolicy_40 : decode cX4_bestPolicy 40 = .ok (.ireturn, 1) := by decide +kernel
theorem dX4_ticksWithCapacity_0 : decode cX4_ticksWithCapacity 0 = .ok (.aload_n 0, 1) := by decide +kernel
theorem dX4_ticksWithCapacity_1 : decode cX4_ticksWithCapacity 1 = .ok (.iload_n 1, 1) := by decide +kernel
theorem dX4_ticksWithCapacity_2 : decode cX4_ticksWithCapacity 2 = .ok (.invokevirtual 218, 3) := by decide +kernel
theorem dX4_ticksWithCapacity_5 : decode cX4_ticksWithCapacity 5 = .ok (.aload_n 0, 1) := by decide +kernel
theorem dX4_ticksWithCapacity_6 : decode cX4_ticksWithCapacity 6 = .ok (.aload_n 0, 1) := by decide +kernel
theorem dX4_ticksWithCapacity_7 : decode cX4_ticksWithCapacity 7 = .ok (.getfield 10, 3) := by decide +kernel
theorem dX4_ticksWithCapacity_10 : decode cX4_ticksWithCapacity 10 = .ok (.getfield 106, 3) := by decide +kernel
theorem dX4_ticksWithCapacity_13 : decode cX4_ticksWithCapacity 13 = .ok (.iload_n 1, 1) := by decide +kernel
theorem dX4_ticksWithCapacity_14 : decode cX4_ticksWithCapacity 14 = .ok (.invokevirtual 212, 3) := by decide +kernel
theorem dX4_ticksWithCapacity_17 : decode cX4_ticksWithCapacity 17 = .ok (.ireturn, 1) := by decide +kernel
theorem dX4_expectedAt_0 : decode cX4_expectedAt 0 = .ok (.aload_n 0, 1) := by decide +kernel
theorem dX4_expectedAt_1 : decode cX4_expectedAt 1 = .ok (.iload_n 1, 1) := by decide +kernel
theorem dX4_expectedAt_2 : decode cX4_expectedAt 2 = .ok (.invokevirtual 145, 3) := by decide +kernel
theorem dX4_expectedAt_5 : decode cX4_expectedAt 5 = .ok (.aload_n 0, 1) := by decide +kernel
theorem dX4_expectedAt_6 : decode cX4_expectedAt 6 = .ok (.aload_n 0, 1) := by decide +kernel
theorem dX4_expectedAt_7 : decode cX4_expectedAt 7 = .ok (.getfield 10, 3) := by decide +kernel
theorem dX4_expectedAt_10 : decode cX4_expectedAt 10 = .ok (.getfield 106, 3) := by decide +kernel
theorem dX4_expectedAt_13 : decode cX4_expectedAt 13 = .ok (.aload_n 0, 1) := by decide +kernel
theorem dX4_expectedAt_14 : decode cX4_expectedAt 14 = .ok (.getfield 10, 3) := by decide +kernel
theorem dX4_expectedAt_17 : decode cX4_expectedAt 17 = .ok (.getfield 103, 3) := by decide +kernel
theorem dX4_expectedAt_20 : decode cX4_expectedAt 20 = .ok (.invokevirtual 212, 3) := by decide +kernel
theorem dX4_expectedAt_23 : decode cX4_expectedAt 23 = .ok (.pop, 1) := by decide +kernel
theorem dX4_expectedAt_24 : decode cX4_expectedAt 24 = .ok (.aload_n 0, 1) := by decide +kernel
theorem dX4_expectedAt_25 : decode cX4_expectedAt 25 = .ok (.getfield 16, 3) := by decide +kernel
theorem dX4_expectedAt_28 : decode cX4_expectedAt 28 = .ok (.getfield 164, 3) := by decide +kernel
theorem dX4_expectedAt_31 : decode cX4_expectedAt 31 = .ok (.iload_n 1, 1) := by decide +kernel
theorem dX4_expectedAt_32 : decode cX4_expectedAt 32 = .ok (.iaload, 1) := by decide +kernel
theorem dX4_expectedAt_33 : decode cX4_expectedAt 33 = .ok (.ireturn, 1) := by decide +kernel
theorem dX4_forecast_0 : decode cX4_forecast 0 = .ok (.aload_n 0, 1) := by decide +kernel
theorem dX4_forecast_1 : decode cX4_forecast 1 = .ok (.getfield 16, 3) := by decide +kernel
theorem dX4_forecast_4 : decode cX4_forecast 4 = .ok (.aload_n 0, 1) := by decide +kernel
theorem dX4_forecast_5 : decode cX4_forecast 5 = .ok (.getfield 10, 3) := by decide +kernel
theorem dX4_forecast_8 : decode cX4_forecast 8 = .ok (.invokevirtual 79, 3) := by decide +kernel
theorem dX4_forecast_11 : decode cX4_forecast 11 = .ok (.aload_n 0, 1) := by decide +kernel
theorem dX4_forecast_12 : decode cX4_forecast 12 = .ok (.getfield 16, 3) := by decide +kernel
theorem dX4_forecast_15 : decode cX4_forecast 15 = .ok (.iload_n 1, 1) := by decide +kernel
theorem dX4_forecast_16 : decode cX4_forecast 16 = .ok (.putfield 106, 3) := by decide +kernel
theorem dX4_forecast_19 : decode cX4_forecast 19 = .ok (.aload_n 0, 1) := by decide +kernel
theorem dX4_forecast_20 : decode cX4_forecast 20 = .ok (.getfield 16, 3) := by decide +kernel
theorem dX4_forecast_23 : decode cX4_forecast 23 = .ok (.iload_n 2, 1) := by decide +kernel
theorem dX4_forecast_24 : decode cX4_forecast 24 = .ok (.putfield 103, 3) := by decide +kernel
theorem dX4_forecast_27 : decode cX4_forecast 27 = .ok (.aload_n 0, 1) := by decide +kernel
theorem dX4_forecast_28 : decode cX4_forecast 28 = .ok (.getfield 16, 3) := by decide +kernel
theorem dX4_forecast_31 : decode cX4_forecast 31 = .ok (.ldc 221, 2) := by decide +kernel
theorem dX4_forecast_33 : decode cX4_forecast 33 = .ok (.invokevirtual 222, 3) := by decide +kernel
theorem dX4_forecast_36 : decode cX4_forecast 36 = .ok (.ireturn, 1) := by decide +kernel
theorem dX4_forecastWaits_0 : decode cX4_forecastWaits 0 = .ok (.aload_n 0, 1) := by decide +kernel
theorem dX4_forecastWaits_1 : decode cX4_forecastWaits 1 = .ok (.iload_n 1, 1) := by decide +kernel
theorem dX4_forecastWaits_2 : decode cX4_forecastWaits 2 = .ok (.aload_n 0, 1) := by decide +kernel
theorem dX4_forecastWaits_3 : decode cX4_forecastWaits 3 = .ok (.getfield 10, 3) := by decide +kernel
theorem dX4_forecastWaits_6 : decode cX4_forecastWaits 6 = .ok (.getfield 103, 3) := by decide +kernel
theorem dX4_forecastWaits_9 : decode cX4_forecastWaits 9 = .ok (.invokevirtual 212, 3) := by decide +kernel
theorem dX4_forecastWaits_12 : decode cX4_forecastWaits 12 = .ok (.pop, 1) := by decide +kernel
theorem dX4_forecastWaits_13 : decode cX4_forecastWaits 13 = .ok (.aload_n 0, 1) := by decide +kernel
theorem dX4_forecastWaits_14 : decode cX4_forecastWaits 14 = .ok (.getfield 16, 3) := by decide +kernel
theorem dX4_forecastWaits_17 : decode cX4_forecastWaits 17 = .ok (.invokevirtual 199, 3) := by decide +kernel
theorem dX4_forecastWaits_20 : decode cX4_forecastWaits 20 = .ok (.ireturn, 1) := by decide +kernel
theorem dX4_addPassenger_0 : decode cX4_addPassenger 0 = .ok (.aload_n 0, 1) := by decide +kernel
theorem dX4_addPassenger_1 : decode cX4_addPassenger 1 = .ok (.iload_n 1, 1) := by decide +kernel
theorem dX4_addPassenger_2 : decode cX4_addPassenger 2 = .ok (.invokevirtual 183, 3) := by decide +kernel
theorem dX4_addPassenger_5 : decode cX4_addPassenger 5 = .ok (.aload_n 0, 1) := by decide +kernel
theorem dX4_addPassenger_6 : decode cX4_addPassenger 6 = .ok (.iload_n 2, 1) := by decide +kernel
theorem dX4_addPassenger_7 : decode cX4_addPassenger 7 = .ok (.invokevirtual 183, 3) := by decide +kernel
theorem dX4_addPassenger_10 : decode cX4_addPassenger 10 = .ok (.iload_n 2, 1) := by decide +kernel
theorem dX4_addPassenger_11 : decode cX4_addPassenger 11 = .ok (.iload_n 1, 1) := by decide +kernel
theorem dX4_addPassenger_12 : decode cX4_addPassenger 12 = .ok (.if_icmp .ne 13, 3) := by decide +kernel
theorem dX4_addPassenger_15 : decode cX4_addPassenger 15 = .ok (.new 72, 3) := by decide +kernel
theorem dX4_addPassenger_18 : decode cX4_addPassenger 18 = .ok (.dup, 1) := by decide +kernel
theorem dX4_addPassenger_19 : decode cX4_addPassenger 19 = .ok (.ldc 225, 2) := by decide +kernel
theorem dX4_addPassenger_21 : decode cX4_addPassenger 21 = .ok (.invokespecial 76, 3) := by decide +kernel
theorem dX4_addPassenger_24 : decode cX4_addPassenger 24 = .ok (.athrow, 1) := by decide +kernel
theorem dX4_addPassenger_25 : decode cX4_addPassenger 25 = .ok (.iload_n 3, 1) := by decide +kernel
theorem dX4_addPassenger_26 : decode cX4_addPassenger 26 = .ok (.aload_n 0, 1) := by decide +kernel
theorem dX4_addPassenger_27 : decode cX4_addPassenger 27 = .ok (.getfield 10, 3) := by decide +kernel
theorem dX4_addPassenger_30 : decode cX4_addPassenger 30 = .ok (.getfield 109, 3) := by decide +kernel
theorem dX4_addPassenger_33 : decode cX4_addPassenger 33 = .ok (.if_icmp .lt 10, 3) := by decide +kernel
theorem dX4_addPassenger_36 : decode cX4_addPassenger 36 = .ok (.iload_n 3, 1) := by decide +kernel
theorem dX4_addPassenger_37 : decode cX4_addPassenger 37 = .ok (.sipush 999, 3) := by decide +kernel
theorem dX4_addPassenger_40 : decode cX4_addPassenger 40 = .ok (.if_icmp .le 13, 3) := by decide +kernel
theorem dX4_addPassenger_43 : decode cX4_addPassenger 43 = .ok (.new 72, 3) := by decide +kernel
theorem dX4_addPassenger_46 : decode cX4_addPassenger 46 = .ok (.dup, 1) := by decide +kernel
theorem dX4_addPassenger_47 : decode cX4_addPassenger 47 = .ok (.ldc 227, 2) := by decide +kernel
theorem dX4_addPassenger_49 : decode cX4_addPassenger 49 = .ok (.invokespecial 76, 3) := by decide +kernel
theorem dX4_addPassenger_52 : decode cX4_addPassenger 52 = .ok (.athrow, 1) := by decide +kernel
theorem dX4_addPassenger_53 : decode cX4_addPassenger 53 = .ok (.aload_n 0, 1) := by decide +kernel
theorem dX4_addPassenger_54 : decode cX4_addPassenger 54 = .ok (.getfield 10, 3) := by decide +kernel
theorem dX4_addPassenger_57 : decode cX4_addPassenger 57 = .ok (.getfield 83, 3) := by decide +kernel
theorem dX4_addPassenger_60 : decode cX4_addPassenger 60 = .ok (.bipush 40, 2) := by decide +kernel
theorem dX4_addPassenger_62 : decode cX4_addPassenger 62 = .ok (.if_icmp .lt 13, 3) := by decide +kernel
theorem dX4_addPassenger_65 : decode cX4_addPassenger 65 = .ok (.new 229, 3) := by decide +kernel
theorem dX4_addPassenger_68 : decode cX4_addPassenger 68 = .ok (.dup, 1) := by decide +kernel
theorem dX4_addPassenger_69 : decode cX4_addPassenger 69 = .ok (.ldc 231, 2) := by decide +kernel
theorem dX4_addPassenger_71 : decode cX4_addPassenger 71 = .ok (.invokespecial 233, 3) := by decide +kernel
theorem dX4_addPassenger_74 : decode cX4_addPassenger 74 = .ok (.athrow, 1) := by decide +kernel
theorem dX4_addPassenger_75 : decode cX4_addPassenger 75 = .ok (.aload_n 0, 1) := by decide +kernel
theorem dX4_addPassenger_76 : decode cX4_addPassenger 76 = .ok (.invokevirtual 88, 3) := by decide +kernel
theorem dX4_addPassenger_79 : decode cX4_addPassenger 79 = .ok (.aload_n 0, 1) := by decide +kernel
theorem dX4_addPassenger_80 : decode cX4_addPassenger 80 = .ok (.getfield 10, 3) := by decide +kernel
theorem dX4_addPassenger_83 : decode cX4_addPassenger 83 = .ok (.iload_n 1, 1) := by decide +kernel
theorem dX4_addPassenger_84 : decode cX4_addPassenger 84 = .ok (.iload_n 2, 1) := by decide +kernel
theorem dX4_addPassenger_85 : decode cX4_addPassenger 85 = .ok (.iload_n 3, 1) := by decide +kernel
theorem dX4_addPassenger_86 : decode cX4_addPassenger 86 = .ok (.invokevirtual 234, 3) := by decide +kernel
theorem dX4_addPassenger_89 : decode cX4_addPassenger 89 = .ok (.aload_n 0, 1) := by decide +kernel
theorem dX4_addPassenger_90 : decode cX4_addPassenger 90 = .ok (.getfield 10, 3) := by decide +kernel
theorem dX4_addPassenger_93 : decode cX4_addPassenger 93 = .ok (.getfield 83, 3) := by decide +kernel
theorem dX4_addPassenger_96 : decode cX4_addPassenger 96 = .ok (.iconst 1, 1) := by decide +kernel
theorem dX4_addPassenger_97 : decode cX4_addPassenger 97 = .ok (.isub, 1) := by decide +kernel
theorem dX4_addPassenger_98 : decode cX4_addPassenger 98 = .ok (.ireturn, 1) := by decide +kernel
theorem dX4_run_0 : decode cX4_run 0 = .ok (.iload_n 1, 1) := by decide +kernel
theorem dX4_run_1 : decode cX4_run 1 = .ok (.iconst 1, 1) := by decide +kernel
theorem dX4_run_2 : decode cX4_run 2 = .ok (.if_icmp .lt 10, 3) := by decide +kernel
theorem dX4_run_5 : decode cX4_run 5 = .ok (.iload_n 1, 1) := by decide +kernel
theorem dX4_run_6 : decode cX4_run 6 = .ok (.sipush 999, 3) := by decide +kernel
theorem dX4_run_9 : decode cX4_run 9 = .ok (.if_icmp .le 13, 3) := by decide +kernel
theorem dX4_run_12 : decode cX4_run 12 = .ok (.new 72, 3) := by decide +kernel
theorem dX4_run_15 : decode cX4_run 15 = .ok (.dup, 1) := by decide +kernel
theorem dX4_run_16 : decode cX4_run 16 = .ok (.ldc 238, 2) := by decide +kernel
theorem dX4_run_18 : decode cX4_run 18 = .ok (.invokespecial 76, 3) := by decide +kernel
theorem dX4_run_21 : decode cX4_run 21 = .ok (.athrow, 1) := by decide +kernel
theorem dX4_run_22 : decode cX4_run 22 = .ok (.aload_n 0, 1) := by decide +kernel
theorem dX4_run_23 : decode cX4_run 23 = .ok (.getfield 10, 3) := by decide +kernel
theorem dX4_run_26 : decode cX4_run 26 = .ok (.getfield 109, 3) := by decide +kernel
theorem dX4_run_29 : decode cX4_run 29 = .ok (.iload_n 1, 1) := by decide +kernel
theorem dX4_run_30 : decode cX4_run 30 = .ok (.iadd, 1) := by decide +kernel
theorem dX4_run_31 : decode cX4_run 31 = .ok (.sipush 999, 3) := by decide +kernel
theorem dX4_run_34 : decode cX4_run 34 = .ok (.if_icmp .le 13, 3) := by decide +kernel
theorem dX4_run_37 : decode cX4_run 37 = .ok (.new 229, 3) := by decide +kernel
theorem dX4_run_40 : decode cX4_run 40 = .ok (.dup, 1) := by decide +kernel
theorem dX4_run_41 : decode cX4_run 41 = .ok (.ldc 240, 2) := by decide +kernel
theorem dX4_run_43 : decode cX4_run 43 = .ok (.invokespecial 233, 3) := by decide +kernel
theorem dX4_run_46 : decode cX4_run 46 = .ok (.athrow, 1) := by decide +kernel
theorem dX4_run_47 : decode cX4_run 47 = .ok (.aload_n 0, 1) := by decide +kernel
theorem dX4_run_48 : decode cX4_run 48 = .ok (.invokevirtual 88, 3) := by decide +kernel
theorem dX4_run_51 : decode cX4_run 51 = .ok (.iconst 0, 1) := by decide +kernel
theorem dX4_run_52 : decode cX4_run 52 = .ok (.istore_n 2, 1) := by decide +kernel
theorem dX4_run_53 : decode cX4_run 53 = .ok (.iload_n 2, 1) := by decide +kernel
theorem dX4_run_54 : decode cX4_run 54 = .ok (.iload_n 1, 1) := by decide +kernel
theorem dX4_run_55 : decode cX4_run 55 = .ok (.if_icmp .ge 16, 3) := by decide +kernel
theorem dX4_run_58 : decode cX4_run 58 = .ok (.aload_n 0, 1) := by decide +kernel
theorem dX4_run_59 : decode cX4_run 59 = .ok (.getfield 10, 3) := by decide +kernel
theorem dX4_run_62 : decode cX4_run 62 = .ok (.invokevirtual 242, 3) := by decide +kernel
theorem dX4_run_65 : decode cX4_run 65 = .ok (.iinc 2 1, 3) := by decide +kernel
theorem dX4_run_68 : decode cX4_run 68 = .ok (.goto (-15), 3) := by decide +kernel
theorem dX4_run_71 : decode cX4_run 71 = .ok (.aload_n 0, 1) := by decide +kernel
theorem dX4_run_72 : decode cX4_run 72 = .ok (.getfield 10, 3) := by decide +kernel
theorem dX4_run_75 : decode cX4_run 75 = .ok (.getfield 112, 3) := by decide +kernel
theorem dX4_run_78 : decode cX4_run 78 = .ok (.ireturn, 1) := by decide +kernel
theorem dX4_runToEnd_0 : decode cX4_runToEnd 0 = .ok (.aload_n 0, 1) := by decide +kernel
theorem dX4_runToEnd_1 : decode cX4_runToEnd 1 = .ok (.invokevirtual 88, 3) := by decide +kernel
theorem dX4_runToEnd_4 : decode cX4_runToEnd 4 = .ok (.aload_n 0, 1) := by decide +kernel
theorem dX4_runToEnd_5 : decode cX4_runToEnd 5 = .ok (.getfield 10, 3) := by decide +kernel
theorem dX4_runToEnd_8 : decode cX4_runToEnd 8 = .ok (.sipush 999, 3) := by decide +kernel
theorem dX4_runToEnd_11 : decode cX4_runToEnd 11 = .ok (.aload_n 0, 1) := by decide +kernel
theorem dX4_runToEnd_12 : decode cX4_runToEnd 12 = .ok (.getfield 10, 3) := by decide +kernel
theorem dX4_runToEnd_15 : decode cX4_runToEnd 15 = .ok (.getfield 109, 3) := by decide +kernel
theorem dX4_runToEnd_18 : decode cX4_runToEnd 18 = .ok (.isub, 1) := by decide +kernel
theorem dX4_runToEnd_19 : decode cX4_runToEnd 19 = .ok (.invokevirtual 222, 3) := by decide +kernel
theorem dX4_runToEnd_22 : decode cX4_runToEnd 22 = .ok (.ireturn, 1) := by decide +kernel
theorem dX4_setPolicy_0 : decode cX4_setPolicy 0 = .ok (.aload_n 0, 1) := by decide +kernel
theorem dX4_setPolicy_1 : decode cX4_setPolicy 1 = .ok (.iload_n 1, 1) := by decide +kernel
theorem dX4_setPolicy_2 : decode cX4_setPolicy 2 = .ok (.invokevirtual 126, 3) := by decide +kernel
theorem dX4_setPolicy_5 : decode cX4_setPolicy 5 = .ok (.aload_n 0, 1) := by decide +kernel
theorem dX4_setPolicy_6 : decode cX4_setPolicy 6 = .ok (.invokevirtual 88, 3) := by decide +kernel
theorem dX4_setPolicy_9 : decode cX4_setPolicy 9 = .ok (.aload_n 0, 1) := by decide +kernel
theorem dX4_setPolicy_10 : decode cX4_setPolicy 10 = .ok (.getfield 10, 3) := by decide +kernel
theorem dX4_setPolicy_13 : decode cX4_setPolicy 13 = .ok (.getfield 106, 3) := by decide +kernel
theorem dX4_setPolicy_16 : decode cX4_setPolicy 16 = .ok (.istore_n 2, 1) := by decide +kernel
theorem dX4_setPolicy_17 : decode cX4_setPolicy 17 = .ok (.aload_n 0, 1) := by decide +kernel
theorem dX4_setPolicy_18 : decode cX4_setPolicy 18 = .ok (.getfield 10, 3) := by decide +kernel
theorem dX4_setPolicy_21 : decode cX4_setPolicy 21 = .ok (.iload_n 1, 1) := by decide +kernel
theorem dX4_setPolicy_22 : decode cX4_setPolicy 22 = .ok (.putfield 106, 3) := by decide +kernel
theorem dX4_setPolicy_25 : decode cX4_setPolicy 25 = .ok (.iload_n 2, 1) := by decide +kernel
theorem dX4_setPolicy_26 : decode cX4_setPolicy 26 = .ok (.ireturn, 1) := by decide +kernel
theorem dX4_setCapacity_0 : decode cX4_setCapacity 0 = .ok (.aload_n 0, 1) := by decide +kernel
theorem dX4_setCapacity_1 : decode cX4_setCapacity 1 = .ok (.iload_n 1, 1) := by decide +kernel
theorem dX4_setCapacity_2 : decode cX4_setCapacity 2 = .ok (.invokevirtual 218, 3) := by decide +kernel
theorem dX4_setCapacity_5 : decode cX4_setCapacity 5 = .ok (.aload_n 0, 1) := by decide +kernel
theorem dX4_setCapacity_6 : decode cX4_setCapacity 6 = .ok (.invokevirtual 88, 3) := by decide +kernel
theorem dX4_setCapacity_9 : decode cX4_setCapacity 9 = .ok (.aload_n 0, 1) := by decide +kernel
theorem dX4_setCapacity_10 : decode cX4_setCapacity 10 = .ok (.getfield 10, 3) := by decide +kernel
theorem dX4_setCapacity_13 : decode cX4_setCapacity 13 = .ok (.getfield 103, 3) := by decide +kernel
theorem dX4_setCapacity_16 : decode cX4_setCapacity 16 = .ok (.istore_n 2, 1) := by decide +kernel
theorem dX4_setCapacity_17 : decode cX4_setCapacity 17 = .ok (.aload_n 0, 1) := by decide +kernel
theorem dX4_setCapacity_18 : decode cX4_setCapacity 18 = .ok (.getfield 10, 3) := by decide +kernel
theorem dX4_setCapacity_21 : decode cX4_setCapacity 21 = .ok (.iload_n 1, 1) := by decide +kernel
theorem dX4_setCapacity_22 : decode cX4_setCapacity 22 = .ok (.putfield 103, 3) := by decide +kernel
theorem dX4_setCapacity_25 : decode cX4_setCapacity 25 = .ok (.iload_n 2, 1) := by decide +kernel
theorem dX4_setCapacity_26 : decode cX4_setCapacity 26 = .ok (.ireturn, 1) := by decide +kernel
theorem dX4_undo_0 : decode cX4_undo 0 = .ok (.aload_n 0, 1) := by decide +kernel
theorem dX4_undo_1 : decode cX4_undo 1 = .ok (.getfield 27, 3) := by decide +kernel
theorem dX4_undo_4 : decode cX4_undo 4 = .ok (.ifCond .ne 13, 3) := by decide +kernel
theorem dX4_undo_7 : decode cX4_undo 7 = .ok (.new 229, 3) := by decide +kernel
theorem dX4_undo_10 : decode cX4_undo 10 = .ok (.dup, 1) := by decide +kernel
theorem dX4_undo_11 : decode cX4_undo 11 = .ok (.ldc 245, 2) := by decide +kernel
theorem dX4_undo_13 : decode cX4_undo 13 = .ok (.invokespecial 233, 3) := by decide +kernel
theorem dX4_undo_16 : decode cX4_undo 16 = .ok (.athrow, 1) := by decide +kernel
theorem dX4_undo_17 : decode cX4_undo 17 = .ok (.aload_n 0, 1) := by decide +kernel
theorem dX4_undo_18 : decode cX4_undo 18 = .ok (.aload_n 0, 1) := by decide +kernel
theorem dX4_undo_19 : decode cX4_undo 19 = .ok (.getfield 23, 3) := by decide +kernel
theorem dX4_undo_22 : decode cX4_undo 22 = .ok (.bipush 8, 2) := by decide +kernel
theorem dX4_undo_24 : decode cX4_undo 24 = .ok (.iadd, 1) := by decide +kernel
theorem dX4_undo_25 : decode cX4_undo 25 = .ok (.iconst 1, 1) := by decide +kernel
theorem dX4_undo_26 : decode cX4_undo 26 = .ok (.isub, 1) := by decide +kernel
theorem dX4_undo_27 : decode cX4_undo 27 = .ok (.bipush 8, 2) := by decide +kernel
theorem dX4_undo_29 : decode cX4_undo 29 = .ok (.irem, 1) := by decide +kernel
theorem dX4_undo_30 : decode cX4_undo 30 = .ok (.putfield 23, 3) := by decide +kernel
theorem dX4_undo_33 : decode cX4_undo 33 = .ok (.aload_n 0, 1) := by decide +kernel
theorem dX4_undo_34 : decode cX4_undo 34 = .ok (.dup, 1) := by decide +kernel
theorem dX4_undo_35 : decode cX4_undo 35 = .ok (.getfield 27, 3) := by decide +kernel
theorem dX4_undo_38 : decode cX4_undo 38 = .ok (.iconst 1, 1) := by decide +kernel
theorem dX4_undo_39 : decode cX4_undo 39 = .ok (.isub, 1) := by decide +kernel
theorem dX4_undo_40 : decode cX4_undo 40 = .ok (.putfield 27, 3) := by decide +kernel
theorem dX4_undo_43 : decode cX4_undo 43 = .ok (.aload_n 0, 1) := by decide +kernel
theorem dX4_undo_44 : decode cX4_undo 44 = .ok (.getfield 10, 3) := by decide +kernel
theorem dX4_undo_47 : decode cX4_undo 47 = .ok (.aload_n 0, 1) := by decide +kernel
theorem dX4_undo_48 : decode cX4_undo 48 = .ok (.getfield 19, 3) := by decide +kernel
theorem dX4_undo_51 : decode cX4_undo 51 = .ok (.aload_n 0, 1) := by decide +kernel
theorem dX4_undo_52 : decode cX4_undo 52 = .ok (.getfield 23, 3) := by decide +kernel
theorem dX4_undo_55 : decode cX4_undo 55 = .ok (.aaload, 1) := by decide +kernel
theorem dX4_undo_56 : decode cX4_undo 56 = .ok (.invokevirtual 79, 3) := by decide +kernel
theorem dX4_undo_59 : decode cX4_undo 59 = .ok (.aload_n 0, 1) := by decide +kernel
theorem dX4_undo_60 : decode cX4_undo 60 = .ok (.getfield 27, 3) := by decide +kernel
theorem dX4_undo_63 : decode cX4_undo 63 = .ok (.ireturn, 1) := by decide +kernel
theorem dX4_undoDepth_0 : decode cX4_undoDepth 0 = .ok (.aload_n 0, 1) := by decide +kernel
theorem dX4_undoDepth_1 : decode cX4_undoDepth 1 = .ok (.getfield 27, 3) := by decide +kernel
theorem dX4_undoDepth_4 : decode cX4_undoDepth 4 = .ok (.ireturn, 1) := by decide +kernel
theorem dX4_rememberState_0 : decode cX4_rememberState 0 = .ok (.aload_n 0, 1) := by decide +kernel
theorem dX4_rememberState_1 : decode cX4_rememberState 1 = .ok (.getfield 19, 3) := by decide +kernel
theorem dX4_rememberState_4 : decode cX4_rememberState 4 = .ok (.aload_n 0, 1) := by decide +kernel
theorem dX4_rememberState_5 : decode cX4_rememberState 5 = .ok (.getfield 23, 3) := by decide +kernel
theorem dX4_rememberState_8 : decode cX4_rememberState 8 = .ok (.aaload, 1) := by decide +kernel
theorem dX4_rememberState_9 : decode cX4_rememberState 9 = .ok (.aload_n 0, 1) := by decide +kernel
theorem dX4_rememberState_10 : decode cX4_rememberState 10 = .ok (.getfield 10, 3) := by decide +kernel
theorem dX4_rememberState_13 : decode cX4_rememberState 13 = .ok (.invokevirtual 79, 3) := by decide +kernel
theorem dX4_rememberState_16 : decode cX4_rememberState 16 = .ok (.aload_n 0, 1) := by decide +kernel
theorem dX4_rememberState_17 : decode cX4_rememberState 17 = .ok (.aload_n 0, 1) := by decide +kernel
theorem dX4_rememberState_18 : decode cX4_rememberState 18 = .ok (.getfield 23, 3) := by decide +kernel
theorem dX4_rememberState_21 : decode cX4_rememberState 21 = .ok (.iconst 1, 1) := by decide +kernel
theorem dX4_rememberState_22 : decode cX4_rememberState 22 = .ok (.iadd, 1) := by decide +kernel
theorem dX4_rememberState_23 : decode cX4_rememberState 23 = .ok (.bipush 8, 2) := by decide +kernel
theorem dX4_rememberState_25 : decode cX4_rememberState 25 = .ok (.irem, 1) := by decide +kernel
theorem dX4_rememberState_26 : decode cX4_rememberState 26 = .ok (.putfield 23, 3) := by decide +kernel
theorem dX4_rememberState_29 : decode cX4_rememberState 29 = .ok (.aload_n 0, 1) := by decide +kernel
theorem dX4_rememberState_30 : decode cX4_rememberState 30 = .ok (.aload_n 0, 1) := by decide +kernel
theorem dX4_rememberState_31 : decode cX4_rememberState 31 = .ok (.getfield 27, 3) := by decide +kernel
theorem dX4_rememberState_34 : decode cX4_rememberState 34 = .ok (.iconst 1, 1) := by decide +kernel
theorem dX4_rememberState_35 : decode cX4_rememberState 35 = .ok (.iadd, 1) := by decide +kernel
theorem dX4_rememberState_36 : decode cX4_rememberState 36 = .ok (.bipush 8, 2) := by decide +kernel
theorem dX4_rememberState_38 : decode cX4_rememberState 38 = .ok (.invokestatic 247, 3) := by decide +kernel
theorem dX4_rememberState_41 : decode cX4_rememberState 41 = .ok (.putfield 27, 3) := by decide +kernel
theorem dX4_rememberState_44 : decode cX4_rememberState 44 = .ok (.return_, 1) := by decide +kernel
theorem dX4_save_0 : decode cX4_save 0 = .ok (.aload_n 0, 1) := by decide +kernel
theorem dX4_save_1 : decode cX4_save 1 = .ok (.iload_n 1, 1) := by decide +kernel
theorem dX4_save_2 : decode cX4_save 2 = .ok (.invokevirtual 250, 3) := by decide +kernel
theorem dX4_save_5 : decode cX4_save 5 = .ok (.aload_n 0, 1) := by decide +kernel
theorem dX4_save_6 : decode cX4_save 6 = .ok (.getfield 33, 3) := by decide +kernel
theorem dX4_save_9 : decode cX4_save 9 = .ok (.iload_n 1, 1) := by decide +kernel
theorem dX4_save_10 : decode cX4_save 10 = .ok (.baload, 1) := by decide +kernel
theorem dX4_save_11 : decode cX4_save 11 = .ok (.ifCond .ne 7, 3) := by decide +kernel
theorem dX4_save_14 : decode cX4_save 14 = .ok (.iconst 1, 1) := by decide +kernel
theorem dX4_save_15 : decode cX4_save 15 = .ok (.goto 4, 3) := by decide +kernel
theorem dX4_save_18 : decode cX4_save 18 = .ok (.iconst 0, 1) := by decide +kernel
theorem dX4_save_19 : decode cX4_save 19 = .ok (.istore_n 2, 1) := by decide +kernel
theorem dX4_save_20 : decode cX4_save 20 = .ok (.aload_n 0, 1) := by decide +kernel
theorem dX4_save_21 : decode cX4_save 21 = .ok (.getfield 30, 3) := by decide +kernel
theorem dX4_save_24 : decode cX4_save 24 = .ok (.iload_n 1, 1) := by decide +kernel
theorem dX4_save_25 : decode cX4_save 25 = .ok (.aaload, 1) := by decide +kernel
theorem dX4_save_26 : decode cX4_save 26 = .ok (.aload_n 0, 1) := by decide +kernel
theorem dX4_save_27 : decode cX4_save 27 = .ok (.getfield 10, 3) := by decide +kernel
theorem dX4_save_30 : decode cX4_save 30 = .ok (.invokevirtual 79, 3) := by decide +kernel
theorem dX4_save_33 : decode cX4_save 33 = .ok (.aload_n 0, 1) := by decide +kernel
theorem dX4_save_34 : decode cX4_save 34 = .ok (.getfield 33, 3) := by decide +kernel
theorem dX4_save_37 : decode cX4_save 37 = .ok (.iload_n 1, 1) := by decide +kernel
theorem dX4_save_38 : decode cX4_save 38 = .ok (.iconst 1, 1) := by decide +kernel
theorem dX4_save_39 : decode cX4_save 39 = .ok (.bastore, 1) := by decide +kernel
theorem dX4_save_40 : decode cX4_save 40 = .ok (.iload_n 2, 1) := by decide +kernel
theorem dX4_save_41 : decode cX4_save 41 = .ok (.ireturn, 1) := by decide +kernel
theorem dX4_restore_0 : decode cX4_restore 0 = .ok (.aload_n 0, 1) := by decide +kernel
theorem dX4_restore_1 : decode cX4_restore 1 = .ok (.iload_n 1, 1) := by decide +kernel
theorem dX4_restore_2 : decode cX4_restore 2 = .ok (.invokevirtual 250, 3) := by decide +kernel
theorem dX4_restore_5 : decode cX4_restore 5 = .ok (.aload_n 0, 1) := by decide +kernel
theorem dX4_restore_6 : decode cX4_restore 6 = .ok (.getfield 33, 3) := by decide +kernel
theorem dX4_restore_9 : decode cX4_restore 9 = .ok (.iload_n 1, 1) := by decide +kernel
theorem dX4_restore_10 : decode cX4_restore 10 = .ok (.baload, 1) := by decide +kernel
theorem dX4_restore_11 : decode cX4_restore 11 = .ok (.ifCond .ne 13, 3) := by decide +kernel
theorem dX4_restore_14 : decode cX4_restore 14 = .ok (.new 229, 3) := by decide +kernel
theorem dX4_restore_17 : decode cX4_restore 17 = .ok (.dup, 1) := by decide +kernel
theorem dX4_restore_18 : decode cX4_restore 18 = .ok (.ldc 253, 2) := by decide +kernel
theorem dX4_restore_20 : decode cX4_restore 20 = .ok (.invokespecial 233, 3) := by decide +kernel
theorem dX4_restore_23 : decode cX4_restore 23 = .ok (.athrow, 1) := by decide +kernel
theorem dX4_restore_24 : decode cX4_restore 24 = .ok (.aload_n 0, 1) := by decide +kernel
theorem dX4_restore_25 : decode cX4_restore 25 = .ok (.getfield 10, 3) := by decide +kernel
theorem dX4_restore_28 : decode cX4_restore 28 = .ok (.aload_n 0, 1) := by decide +kernel
theorem dX4_restore_29 : decode cX4_restore 29 = .ok (.getfield 30, 3) := by decide +kernel
theorem dX4_restore_32 : decode cX4_restore 32 = .ok (.iload_n 1, 1) := by decide +kernel
theorem dX4_restore_33 : decode cX4_restore 33 = .ok (.aaload, 1) := by decide +kernel
theorem dX4_restore_34 : decode cX4_restore 34 = .ok (.invokevirtual 79, 3) := by decide +kernel
theorem dX4_restore_37 : decode cX4_restore 37 = .ok (.aload_n 0, 1) := by decide +kernel
theorem dX4_restore_38 : decode cX4_restore 38 = .ok (.iconst 0, 1) := by decide +kernel
theorem dX4_restore_39 : decode cX4_restore 39 = .ok (.putfield 27, 3) := by decide +kernel
theorem dX4_restore_42 : decode cX4_restore 42 = .ok (.aload_n 0, 1) := by decide +kernel
theorem dX4_restore_43 : decode cX4_restore 43 = .ok (.getfield 10, 3) := by decide +kernel
theorem dX4_restore_46 : decode cX4_restore 46 = .ok (.getfield 109, 3) := by decide +kernel
theorem dX4_restore_49 : decode cX4_restore 49 = .ok (.ireturn, 1) := by decide +kernel
theorem dX4_writeStatus_0 : decode cX4_writeStatus 0 = .ok (.aload_n 0, 1) := by decide +kernel
theorem dX4_writeStatus_1 : decode cX4_writeStatus 1 = .ok (.iconst 0, 1) := by decide +kernel
theorem dX4_writeStatus_2 : decode cX4_writeStatus 2 = .ok (.putfield 54, 3) := by decide +kernel
theorem dX4_writeStatus_5 : decode cX4_writeStatus 5 = .ok (.iconst 0, 1) := by decide +kernel
theorem dX4_writeStatus_6 : decode cX4_writeStatus 6 = .ok (.istore_n 1, 1) := by decide +kernel
theorem dX4_writeStatus_7 : decode cX4_writeStatus 7 = .ok (.iload_n 1, 1) := by decide +kernel
theorem dX4_writeStatus_8 : decode cX4_writeStatus 8 = .ok (.aload_n 0, 1) := by decide +kernel
theorem dX4_writeStatus_9 : decode cX4_writeStatus 9 = .ok (.getfield 10, 3) := by decide +kernel
theorem dX4_writeStatus_12 : decode cX4_writeStatus 12 = .ok (.getfield 83, 3) := by decide +kernel
theorem dX4_writeStatus_15 : decode cX4_writeStatus 15 = .ok (.if_icmp .ge 24, 3) := by decide +kernel
theorem dX4_writeStatus_18 : decode cX4_writeStatus 18 = .ok (.aload_n 0, 1) := by decide +kernel
theorem dX4_writeStatus_19 : decode cX4_writeStatus 19 = .ok (.aload_n 0, 1) := by decide +kernel
theorem dX4_writeStatus_20 : decode cX4_writeStatus 20 = .ok (.getfield 10, 3) := by decide +kernel
theorem dX4_writeStatus_23 : decode cX4_writeStatus 23 = .ok (.iload_n 1, 1) := by decide +kernel
theorem dX4_writeStatus_24 : decode cX4_writeStatus 24 = .ok (.invokevirtual 148, 3) := by decide +kernel
theorem dX4_writeStatus_27 : decode cX4_writeStatus 27 = .ok (.invokestatic 255, 3) := by decide +kernel
theorem dX4_writeStatus_30 : decode cX4_writeStatus 30 = .ok (.invokevirtual 258, 3) := by decide +kernel
theorem dX4_writeStatus_33 : decode cX4_writeStatus 33 = .ok (.iinc 1 1, 3) := by decide +kernel
theorem dX4_writeStatus_36 : decode cX4_writeStatus 36 = .ok (.goto (-29), 3) := by decide +kernel
theorem dX4_writeStatus_39 : decode cX4_writeStatus 39 = .ok (.aload_n 0, 1) := by decide +kernel
theorem dX4_writeStatus_40 : decode cX4_writeStatus 40 = .ok (.getfield 54, 3) := by decide +kernel
theorem dX4_writeStatus_43 : decode cX4_writeStatus 43 = .ok (.ireturn, 1) := by decide +kernel
theorem dX4_writeBuilding_0 : decode cX4_writeBuilding 0 = .ok (.aload_n 0, 1) := by decide +kernel
theorem dX4_writeBuilding_1 : decode cX4_writeBuilding 1 = .ok (.iconst 0, 1) := by decide +kernel
theorem dX4_writeBuilding_2 : decode cX4_writeBuilding 2 = .ok (.putfield 54, 3) := by decide +kernel
theorem dX4_writeBuilding_5 : decode cX4_writeBuilding 5 = .ok (.iconst 0, 1) := by decide +kernel
theorem dX4_writeBuilding_6 : decode cX4_writeBuilding 6 = .ok (.istore_n 1, 1) := by decide +kernel
theorem dX4_writeBuilding_7 : decode cX4_writeBuilding 7 = .ok (.iload_n 1, 1) := by decide +kernel
theorem dX4_writeBuilding_8 : decode cX4_writeBuilding 8 = .ok (.aload_n 0, 1) := by decide +kernel
theorem dX4_writeBuilding_9 : decode cX4_writeBuilding 9 = .ok (.getfield 10, 3) := by decide +kernel
theorem dX4_writeBuilding_12 : decode cX4_writeBuilding 12 = .ok (.getfield 100, 3) := by decide +kernel
theorem dX4_writeBuilding_15 : decode cX4_writeBuilding 15 = .ok (.if_icmp .ge 59, 3) := by decide +kernel
theorem dX4_writeBuilding_18 : decode cX4_writeBuilding 18 = .ok (.iload_n 1, 1) := by decide +kernel
theorem dX4_writeBuilding_19 : decode cX4_writeBuilding 19 = .ok (.ifCond .le 9, 3) := by decide +kernel
theorem dX4_writeBuilding_22 : decode cX4_writeBuilding 22 = .ok (.aload_n 0, 1) := by decide +kernel
theorem dX4_writeBuilding_23 : decode cX4_writeBuilding 23 = .ok (.bipush 44, 2) := by decide +kernel
theorem dX4_writeBuilding_25 : decode cX4_writeBuilding 25 = .ok (.invokevirtual 258, 3) := by decide +kernel
theorem dX4_writeBuilding_28 : decode cX4_writeBuilding 28 = .ok (.aload_n 0, 1) := by decide +kernel
theorem dX4_writeBuilding_29 : decode cX4_writeBuilding 29 = .ok (.aload_n 0, 1) := by decide +kernel
theorem dX4_writeBuilding_30 : decode cX4_writeBuilding 30 = .ok (.getfield 10, 3) := by decide +kernel
theorem dX4_writeBuilding_33 : decode cX4_writeBuilding 33 = .ok (.iload_n 1, 1) := by decide +kernel
theorem dX4_writeBuilding_34 : decode cX4_writeBuilding 34 = .ok (.invokevirtual 186, 3) := by decide +kernel
theorem dX4_writeBuilding_37 : decode cX4_writeBuilding 37 = .ok (.invokevirtual 261, 3) := by decide +kernel
theorem dX4_writeBuilding_40 : decode cX4_writeBuilding 40 = .ok (.iload_n 1, 1) := by decide +kernel
theorem dX4_writeBuilding_41 : decode cX4_writeBuilding 41 = .ok (.aload_n 0, 1) := by decide +kernel
theorem dX4_writeBuilding_42 : decode cX4_writeBuilding 42 = .ok (.getfield 10, 3) := by decide +kernel
theorem dX4_writeBuilding_45 : decode cX4_writeBuilding 45 = .ok (.getfield 112, 3) := by decide +kernel
theorem dX4_writeBuilding_48 : decode cX4_writeBuilding 48 = .ok (.if_icmp .ne 20, 3) := by decide +kernel
theorem dX4_writeBuilding_51 : decode cX4_writeBuilding 51 = .ok (.aload_n 0, 1) := by decide +kernel
theorem dX4_writeBuilding_52 : decode cX4_writeBuilding 52 = .ok (.bipush 42, 2) := by decide +kernel
theorem dX4_writeBuilding_54 : decode cX4_writeBuilding 54 = .ok (.invokevirtual 258, 3) := by decide +kernel
theorem dX4_writeBuilding_57 : decode cX4_writeBuilding 57 = .ok (.aload_n 0, 1) := by decide +kernel
theorem dX4_writeBuilding_58 : decode cX4_writeBuilding 58 = .ok (.aload_n 0, 1) := by decide +kernel
theorem dX4_writeBuilding_59 : decode cX4_writeBuilding 59 = .ok (.getfield 10, 3) := by decide +kernel
theorem dX4_writeBuilding_62 : decode cX4_writeBuilding 62 = .ok (.getfield 119, 3) := by decide +kernel
theorem dX4_writeBuilding_65 : decode cX4_writeBuilding 65 = .ok (.invokevirtual 261, 3) := by decide +kernel
theorem dX4_writeBuilding_68 : decode cX4_writeBuilding 68 = .ok (.iinc 1 1, 3) := by decide +kernel
theorem dX4_writeBuilding_71 : decode cX4_writeBuilding 71 = .ok (.goto (-64), 3) := by decide +kernel
theorem dX4_writeBuilding_74 : decode cX4_writeBuilding 74 = .ok (.aload_n 0, 1) := by decide +kernel
theorem dX4_writeBuilding_75 : decode cX4_writeBuilding 75 = .ok (.getfield 54, 3) := by decide +kernel
theorem dX4_writeBuilding_78 : decode cX4_writeBuilding 78 = .ok (.ireturn, 1) := by decide +kernel
theorem dX4_outputByte_0 : decode cX4_outputByte 0 = .ok (.iload_n 1, 1) := by decide +kernel
theorem dX4_outputByte_1 : decode cX4_outputByte 1 = .ok (.ifCond .lt 11, 3) := by decide +kernel
theorem dX4_outputByte_4 : decode cX4_outputByte 4 = .ok (.iload_n 1, 1) := by decide +kernel
theorem dX4_outputByte_5 : decode cX4_outputByte 5 = .ok (.aload_n 0, 1) := by decide +kernel
theorem dX4_outputByte_6 : decode cX4_outputByte 6 = .ok (.getfield 54, 3) := by decide +kernel
theorem dX4_outputByte_9 : decode cX4_outputByte 9 = .ok (.if_icmp .lt 5, 3) := by decide +kernel
theorem dX4_outputByte_12 : decode cX4_outputByte 12 = .ok (.iconst (-1), 1) := by decide +kernel
theorem dX4_outputByte_13 : decode cX4_outputByte 13 = .ok (.ireturn, 1) := by decide +kernel
theorem dX4_outputByte_14 : decode cX4_outputByte 14 = .ok (.aload_n 0, 1) := by decide +kernel
theorem dX4_outputByte_15 : decode cX4_outputByte 15 = .ok (.getfield 51, 3) := by decide +kernel
theorem dX4_outputByte_18 : decode cX4_outputByte 18 = .ok (.iload_n 1, 1) := by decide +kernel
theorem dX4_outputByte_19 : decode cX4_outputByte 19 = .ok (.baload, 1) := by decide +kernel
theorem dX4_outputByte_20 : decode cX4_outputByte 20 = .ok (.ireturn, 1) := by decide +kernel
theorem dX4_letterOf_0 : decode cX4_letterOf 0 = .ok (.iload_n 0, 1) := by decide +kernel
theorem dX4_letterOf_1 : decode cX4_letterOf 1 = .ok (.tableswitch 36 1 3 #[27, 30, 33], 27) := by decide +kernel
theorem dX4_letterOf_28 : decode cX4_letterOf 28 = .ok (.bipush 119, 2) := by decide +kernel
theorem dX4_letterOf_30 : decode cX4_letterOf 30 = .ok (.ireturn, 1) := by decide +kernel
theorem dX4_letterOf_31 : decode cX4_letterOf 31 = .ok (.bipush 114, 2) := by decide +kernel
theorem dX4_letterOf_33 : decode cX4_letterOf 33 = .ok (.ireturn, 1) := by decide +kernel
theorem dX4_letterOf_34 : decode cX4_letterOf 34 = .ok (.bipush 100, 2) := by decide +kernel
theorem dX4_letterOf_36 : decode cX4_letterOf 36 = .ok (.ireturn, 1) := by decide +kernel
theorem dX4_letterOf_37 : decode cX4_letterOf 37 = .ok (.bipush 46, 2) := by decide +kernel
theorem dX4_letterOf_39 : decode cX4_letterOf 39 = .ok (.ireturn, 1) := by decide +kernel
theorem dX4_writeNumber_0 : decode cX4_writeNumber 0 = .ok (.iload_n 1, 1) := by decide +kernel
theorem dX4_writeNumber_1 : decode cX4_writeNumber 1 = .ok (.bipush 10, 2) := by decide +kernel
theorem dX4_writeNumber_3 : decode cX4_writeNumber 3 = .ok (.if_icmp .lt 14, 3) := by decide +kernel
theorem dX4_writeNumber_6 : decode cX4_writeNumber 6 = .ok (.aload_n 0, 1) := by decide +kernel
theorem dX4_writeNumber_7 : decode cX4_writeNumber 7 = .ok (.bipush 48, 2) := by decide +kernel
theorem dX4_writeNumber_9 : decode cX4_writeNumber 9 = .ok (.iload_n 1, 1) := by decide +kernel
theorem dX4_writeNumber_10 : decode cX4_writeNumber 10 = .ok (.bipush 10, 2) := by decide +kernel
theorem dX4_writeNumber_12 : decode cX4_writeNumber 12 = .ok (.idiv, 1) := by decide +kernel
theorem dX4_writeNumber_13 : decode cX4_writeNumber 13 = .ok (.iadd, 1) := by decide +kernel
theorem dX4_writeNumber_14 : decode cX4_writeNumber 14 = .ok (.invokevirtual 258, 3) := by decide +kernel
theorem dX4_writeNumber_17 : decode cX4_writeNumber 17 = .ok (.aload_n 0, 1) := by decide +kernel
theorem dX4_writeNumber_18 : decode cX4_writeNumber 18 = .ok (.bipush 48, 2) := by decide +kernel
theorem dX4_writeNumber_20 : decode cX4_writeNumber 20 = .ok (.iload_n 1, 1) := by decide +kernel
theorem dX4_writeNumber_21 : decode cX4_writeNumber 21 = .ok (.bipush 10, 2) := by decide +kernel
theorem dX4_writeNumber_23 : decode cX4_writeNumber 23 = .ok (.irem, 1) := by decide +kernel
theorem dX4_writeNumber_24 : decode cX4_writeNumber 24 = .ok (.iadd, 1) := by decide +kernel
theorem dX4_writeNumber_25 : decode cX4_writeNumber 25 = .ok (.invokevirtual 258, 3) := by decide +kernel
theorem dX4_writeNumber_28 : decode cX4_writeNumber 28 = .ok (.return_, 1) := by decide +kernel
theorem dX4_writeByte_0 : decode cX4_writeByte 0 = .ok (.aload_n 0, 1) := by decide +kernel
theorem dX4_writeByte_1 : decode cX4_writeByte 1 = .ok (.getfield 54, 3) := by decide +kernel
theorem dX4_writeByte_4 : decode cX4_writeByte 4 = .ok (.bipush 64, 2) := by decide +kernel
theorem dX4_writeByte_6 : decode cX4_writeByte 6 = .ok (.if_icmp .ge 24, 3) := by decide +kernel
theorem dX4_writeByte_9 : decode cX4_writeByte 9 = .ok (.aload_n 0, 1) := by decide +kernel
theorem dX4_writeByte_10 : decode cX4_writeByte 10 = .ok (.getfield 51, 3) := by decide +kernel
theorem dX4_writeByte_13 : decode cX4_writeByte 13 = .ok (.aload_n 0, 1) := by decide +kernel
theorem dX4_writeByte_14 : decode cX4_writeByte 14 = .ok (.getfield 54, 3) := by decide +kernel
theorem dX4_writeByte_17 : decode cX4_writeByte 17 = .ok (.iload_n 1, 1) := by decide +kernel
theorem dX4_writeByte_18 : decode cX4_writeByte 18 = .ok (.i2b, 1) := by decide +kernel
theorem dX4_writeByte_19 : decode cX4_writeByte 19 = .ok (.bastore, 1) := by decide +kernel
theorem dX4_writeByte_20 : decode cX4_writeByte 20 = .ok (.aload_n 0, 1) := by decide +kernel
theorem dX4_writeByte_21 : decode cX4_writeByte 21 = .ok (.dup, 1) := by decide +kernel
theorem dX4_writeByte_22 : decode cX4_writeByte 22 = .ok (.getfield 54, 3) := by decide +kernel
theorem dX4_writeByte_25 : decode cX4_writeByte 25 = .ok (.iconst 1, 1) := by decide +kernel
theorem dX4_writeByte_26 : decode cX4_writeByte 26 = .ok (.iadd, 1) := by decide +kernel
theorem dX4_writeByte_27 : decode cX4_writeByte 27 = .ok (.putfield 54, 3) := by decide +kernel
theorem dX4_writeByte_30 : decode cX4_writeByte 30 = .ok (.return_, 1) := by decide +kernel
theorem dX4_requirePassenger_0 : decode cX4_requirePassenger 0 = .ok (.iload_n 1, 1) := by decide +kernel
theorem dX4_requirePassenger_1 : decode cX4_requirePassenger 1 = .ok (.ifCond .lt 14, 3) := by decide +kernel
theorem dX4_requirePassenger_4 : decode cX4_requirePassenger 4 = .ok (.iload_n 1, 1) := by decide +kernel
theorem dX4_requirePassenger_5 : decode cX4_requirePassenger 5 = .ok (.aload_n 0, 1) := by decide +kernel
theorem dX4_requirePassenger_6 : decode cX4_requirePassenger 6 = .ok (.getfield 10, 3) := by decide +kernel
theorem dX4_requirePassenger_9 : decode cX4_requirePassenger 9 = .ok (.getfield 83, 3) := by decide +kernel
theorem dX4_requirePassenger_12 : decode cX4_requirePassenger 12 = .ok (.if_icmp .lt 14, 3) := by decide +kernel
theorem dX4_requirePassenger_15 : decode cX4_requirePassenger 15 = .ok (.new 264, 3) := by decide +kernel
theorem dX4_requirePassenger_18 : decode cX4_requirePassenger 18 = .ok (.dup, 1) := by decide +kernel
theorem dX4_requirePassenger_19 : decode cX4_requirePassenger 19 = .ok (.ldc_w 266, 3) := by decide +kernel
theorem dX4_requirePassenger_22 : decode cX4_requirePassenger 22 = .ok (.invokespecial 268, 3) := by decide +kernel
theorem dX4_requirePassenger_25 : decode cX4_requirePassenger 25 = .ok (.athrow, 1) := by decide +kernel
theorem dX4_requirePassenger_26 : decode cX4_requirePassenger 26 = .ok (.return_, 1) := by decide +kernel
theorem dX4_requireFloor_0 : decode cX4_requireFloor 0 = .ok (.iload_n 1, 1) := by decide +kernel
theorem dX4_requireFloor_1 : decode cX4_requireFloor 1 = .ok (.ifCond .lt 14, 3) := by decide +kernel
theorem dX4_requireFloor_4 : decode cX4_requireFloor 4 = .ok (.iload_n 1, 1) := by decide +kernel
theorem dX4_requireFloor_5 : decode cX4_requireFloor 5 = .ok (.aload_n 0, 1) := by decide +kernel
theorem dX4_requireFloor_6 : decode cX4_requireFloor 6 = .ok (.getfield 10, 3) := by decide +kernel
theorem dX4_requireFloor_9 : decode cX4_requireFloor 9 = .ok (.getfield 100, 3) := by decide +kernel
theorem dX4_requireFloor_12 : decode cX4_requireFloor 12 = .ok (.if_icmp .lt 14, 3) := by decide +kernel
theorem dX4_requireFloor_15 : decode cX4_requireFloor 15 = .ok (.new 264, 3) := by decide +kernel
theorem dX4_requireFloor_18 : decode cX4_requireFloor 18 = .ok (.dup, 1) := by decide +kernel
theorem dX4_requireFloor_19 : decode cX4_requireFloor 19 = .ok (.ldc_w 269, 3) := by decide +kernel
theorem dX4_requireFloor_22 : decode cX4_requireFloor 22 = .ok (.invokespecial 268, 3) := by decide +kernel
theorem dX4_requireFloor_25 : decode cX4_requireFloor 25 = .ok (.athrow, 1) := by decide +kernel
theorem dX4_requireFloor_26 : decode cX4_requireFloor 26 = .ok (.return_, 1) := by decide +kernel
theorem dX4_requirePolicy_0 : decode cX4_requirePolicy 0 = .ok (.iload_n 1, 1) := by decide +kernel
theorem dX4_requirePolicy_1 : decode cX4_requirePolicy 1 = .ok (.ifCond .lt 8, 3) := by decide +kernel
theorem dX4_requirePolicy_4 : decode cX4_requirePolicy 4 = .ok (.iload_n 1, 1) := by decide +kernel
theorem dX4_requirePolicy_5 : decode cX4_requirePolicy 5 = .ok (.iconst 2, 1) := by decide +kernel
theorem dX4_requirePolicy_6 : decode cX4_requirePolicy 6 = .ok (.if_icmp .le 14, 3) := by decide +kernel
theorem dX4_requirePolicy_9 : decode cX4_requirePolicy 9 = .ok (.new 72, 3) := by decide +kernel
theorem dX4_requirePolicy_12 : decode cX4_requirePolicy 12 = .ok (.dup, 1) := by decide +kernel
theorem dX4_requirePolicy_13 : decode cX4_requirePolicy 13 = .ok (.ldc_w 271, 3) := by decide +kernel
theorem dX4_requirePolicy_16 : decode cX4_requirePolicy 16 = .ok (.invokespecial 76, 3) := by decide +kernel
theorem dX4_requirePolicy_19 : decode cX4_requirePolicy 19 = .ok (.athrow, 1) := by decide +kernel
theorem dX4_requirePolicy_20 : decode cX4_requirePolicy 20 = .ok (.return_, 1) := by decide +kernel
theorem dX4_requireCapacity_0 : decode cX4_requireCapacity 0 = .ok (.iload_n 1, 1) := by decide +kernel
theorem dX4_requireCapacity_1 : decode cX4_requireCapacity 1 = .ok (.iconst 1, 1) := by decide +kernel
theorem dX4_requireCapacity_2 : decode cX4_requireCapacity 2 = .ok (.if_icmp .lt 9, 3) := by decide +kernel
theorem dX4_requireCapacity_5 : decode cX4_requireCapacity 5 = .ok (.iload_n 1, 1) := by decide +kernel
theorem dX4_requireCapacity_6 : decode cX4_requireCapacity 6 = .ok (.bipush 8, 2) := by decide +kernel
theorem dX4_requireCapacity_8 : decode cX4_requireCapacity 8 = .ok (.if_icmp .le 14, 3) := by decide +kernel
theorem dX4_requireCapacity_11 : decode cX4_requireCapacity 11 = .ok (.new 72, 3) := by decide +kernel
theorem dX4_requireCapacity_14 : decode cX4_requireCapacity 14 = .ok (.dup, 1) := by decide +kernel
theorem dX4_requireCapacity_15 : decode cX4_requireCapacity 15 = .ok (.ldc_w 273, 3) := by decide +kernel
theorem dX4_requireCapacity_18 : decode cX4_requireCapacity 18 = .ok (.invokespecial 76, 3) := by decide +kernel
theorem dX4_requireCapacity_21 : decode cX4_requireCapacity 21 = .ok (.athrow, 1) := by decide +kernel
theorem dX4_requireCapacity_22 : decode cX4_requireCapacity 22 = .ok (.aload_n 0, 1) := by decide +kernel
theorem dX4_requireCapacity_23 : decode cX4_requireCapacity 23 = .ok (.getfield 10, 3) := by decide +kernel
theorem dX4_requireCapacity_26 : decode cX4_requireCapacity 26 = .ok (.getfield 119, 3) := by decide +kernel
theorem dX4_requireCapacity_29 : decode cX4_requireCapacity 29 = .ok (.iload_n 1, 1) := by decide +kernel
theorem dX4_requireCapacity_30 : decode cX4_requireCapacity 30 = .ok (.if_icmp .le 14, 3) := by decide +kernel
theorem dX4_requireCapacity_33 : decode cX4_requireCapacity 33 = .ok (.new 229, 3) := by decide +kernel
theorem dX4_requireCapacity_36 : decode cX4_requireCapacity 36 = .ok (.dup, 1) := by decide +kernel
theorem dX4_requireCapacity_37 : decode cX4_requireCapacity 37 = .ok (.ldc_w 275, 3) := by decide +kernel
theorem dX4_requireCapacity_40 : decode cX4_requireCapacity 40 = .ok (.invokespecial 233, 3) := by decide +kernel
theorem dX4_requireCapacity_43 : decode cX4_requireCapacity 43 = .ok (.athrow, 1) := by decide +kernel
theorem dX4_requireCapacity_44 : decode cX4_requireCapacity 44 = .ok (.return_, 1) := by decide +kernel
theorem dX4_requireSlot_0 : decode cX4_requireSlot 0 = .ok (.iload_n 1, 1) := by decide +kernel
theorem dX4_requireSlot_1 : decode cX4_requireSlot 1 = .ok (.ifCond .lt 8, 3) := by decide +kernel
theorem dX4_requireSlot_4 : decode cX4_requireSlot 4 = .ok (.iload_n 1, 1) := by decide +kernel
theorem dX4_requireSlot_5 : decode cX4_requireSlot 5 = .ok (.iconst 2, 1) := by decide +kernel
theorem dX4_requireSlot_6 : decode cX4_requireSlot 6 = .ok (.if_icmp .lt 14, 3) := by decide +kernel
theorem dX4_requireSlot_9 : decode cX4_requireSlot 9 = .ok (.new 264, 3) := by decide +kernel
theorem dX4_requireSlot_12 : decode cX4_requireSlot 12 = .ok (.dup, 1) := by decide +kernel
theorem dX4_requireSlot_13 : decode cX4_requireSlot 13 = .ok (.ldc_w 277, 3) := by decide +kernel
theorem dX4_requireSlot_16 : decode cX4_requireSlot 16 = .ok (.invokespecial 268, 3) := by decide +kernel
theorem dX4_requireSlot_19 : decode cX4_requireSlot 19 = .ok (.athrow, 1) := by decide +kernel
theorem dX4_requireSlot_20 : decode cX4_requireSlot 20 = .ok (.return_, 1) := by decide +kernel
theorem dX5_init_0 : decode cX5_init 0 = .ok (.aload_n 0, 1) := by decide +kernel
theorem dX5_init_1 : decode cX5_init 1 = .ok (.invokespecial 1, 3) := by decide +kernel
theorem dX5_init_4 : decode cX5_init 4 = .ok (.aload_n 0, 1) := by decide +kernel
theorem dX5_init_5 : decode cX5_init 5 = .ok (.sipush 211, 3) := by decide +kernel
theorem dX5_init_8 : decode cX5_init 8 = .ok (.newarray .int, 2) := by decide +kernel
theorem dX5_init_10 : decode cX5_init 10 = .ok (.putfield 7, 3) := by decide +kernel
theorem dX5_init_13 : decode cX5_init 13 = .ok (.aload_n 0, 1) := by decide +kernel
theorem dX5_init_14 : decode cX5_init 14 = .ok (.sipush 2532, 3) := by decide +kernel
theorem dX5_init_17 : decode cX5_init 17 = .ok (.newarray .int, 2) := by decide +kernel
theorem dX5_init_19 : decode cX5_init 19 = .ok (.putfield 13, 3) := by decide +kernel
theorem dX5_init_22 : decode cX5_init 22 = .ok (.aload_n 0, 1) := by decide +kernel
theorem dX5_init_23 : decode cX5_init 23 = .ok (.sipush 500, 3) := by decide +kernel
theorem dX5_init_26 : decode cX5_init 26 = .ok (.newarray .byte, 2) := by decide +kernel
theorem dX5_init_28 : decode cX5_init 28 = .ok (.putfield 16, 3) := by decide +kernel
theorem dX5_init_31 : decode cX5_init 31 = .ok (.aload_n 0, 1) := by decide +kernel
theorem dX5_init_32 : decode cX5_init 32 = .ok (.iconst (-1), 1) := by decide +kernel
theorem dX5_init_33 : decode cX5_init 33 = .ok (.putfield 20, 3) := by decide +kernel
theorem dX5_init_36 : decode cX5_init 36 = .ok (.aload_n 0, 1) := by decide +kernel
theorem dX5_init_37 : decode cX5_init 37 = .ok (.bipush 80, 2) := by decide +kernel
theorem dX5_init_39 : decode cX5_init 39 = .ok (.newarray .byte, 2) := by decide +kernel
theorem dX5_init_41 : decode cX5_init 41 = .ok (.putfield 24, 3) := by decide +kernel
theorem dX5_init_44 : decode cX5_init 44 = .ok (.aload_n 0, 1) := by decide +kernel
theorem dX5_init_45 : decode cX5_init 45 = .ok (.getfield 7, 3) := by decide +kernel
theorem dX5_init_48 : decode cX5_init 48 = .ok (.iconst 0, 1) := by decide +kernel
theorem dX5_init_49 : decode cX5_init 49 = .ok (.bipush 10, 2) := by decide +kernel
theorem dX5_init_51 : decode cX5_init 51 = .ok (.iastore, 1) := by decide +kernel
theorem dX5_init_52 : decode cX5_init 52 = .ok (.aload_n 0, 1) := by decide +kernel
theorem dX5_init_53 : decode cX5_init 53 = .ok (.getfield 7, 3) := by decide +kernel
theorem dX5_init_56 : decode cX5_init 56 = .ok (.iconst 1, 1) := by decide +kernel
theorem dX5_init_57 : decode cX5_init 57 = .ok (.iconst 4, 1) := by decide +kernel
theorem dX5_init_58 : decode cX5_init 58 = .ok (.iastore, 1) := by decide +kernel
theorem dX5_init_59 : decode cX5_init 59 = .ok (.aload_n 0, 1) := by decide +kernel
theorem dX5_init_60 : decode cX5_init 60 = .ok (.getfield 7, 3) := by decide +kernel
theorem dX5_init_63 : decode cX5_init 63 = .ok (.iconst 2, 1) := by decide +kernel
theorem dX5_init_64 : decode cX5_init 64 = .ok (.iconst 2, 1) := by decide +kernel
theorem dX5_init_65 : decode cX5_init 65 = .ok (.iastore, 1) := by decide +kernel
theorem dX5_init_66 : decode cX5_init 66 = .ok (.aload_n 0, 1) := by decide +kernel
theorem dX5_init_67 : decode cX5_init 67 = .ok (.getfield 7, 3) := by decide +kernel
theorem dX5_init_70 : decode cX5_init 70 = .ok (.iconst 5, 1) := by decide +kernel
theorem dX5_init_71 : decode cX5_init 71 = .ok (.iconst 1, 1) := by decide +kernel
theorem dX5_init_72 : decode cX5_init 72 = .ok (.iastore, 1) := by decide +kernel
theorem dX5_init_73 : decode cX5_init 73 = .ok (.return_, 1) := by decide +kernel
theorem dX5_thrown_0 : decode cX5_thrown 0 = .ok (.aload_n 0, 1) := by decide +kernel
theorem dX5_thrown_1 : decode cX5_thrown 1 = .ok (.getfield 27, 3) := by decide +kernel
theorem dX5_thrown_4 : decode cX5_thrown 4 = .ok (.ireturn, 1) := by decide +kernel
theorem dX5_inRange_0 : decode cX5_inRange 0 = .ok (.iload_n 0, 1) := by decide +kernel
theorem dX5_inRange_1 : decode cX5_inRange 1 = .ok (.iload_n 1, 1) := by decide +kernel
theorem dX5_inRange_2 : decode cX5_inRange 2 = .ok (.if_icmp .lt 12, 3) := by decide +kernel
theorem dX5_inRange_5 : decode cX5_inRange 5 = .ok (.iload_n 0, 1) := by decide +kernel
theorem dX5_inRange_6 : decode cX5_inRange 6 = .ok (.iload_n 2, 1) := by decide +kernel
theorem dX5_inRange_7 : decode cX5_inRange 7 = .ok (.if_icmp .gt 7, 3) := by decide +kernel
theorem dX5_inRange_10 : decode cX5_inRange 10 = .ok (.iconst 1, 1) := by decide +kernel
theorem dX5_inRange_11 : decode cX5_inRange 11 = .ok (.goto 4, 3) := by decide +kernel
theorem dX5_inRange_14 : decode cX5_inRange 14 = .ok (.iconst 0, 1) := by decide +kernel
theorem dX5_inRange_15 : decode cX5_inRange 15 = .ok (.ireturn, 1) := by decide +kernel
theorem dX5_fails_0 : decode cX5_fails 0 = .ok (.iload_n 1, 1) := by decide +kernel
theorem dX5_fails_1 : decode cX5_fails 1 = .ok (.ifCond .eq 8, 3) := by decide +kernel
theorem dX5_fails_4 : decode cX5_fails 4 = .ok (.aload_n 0, 1) := by decide +kernel
theorem dX5_fails_5 : decode cX5_fails 5 = .ok (.iload_n 2, 1) := by decide +kernel
theorem dX5_fails_6 : decode cX5_fails 6 = .ok (.putfield 27, 3) := by decide +kernel
theorem dX5_fails_9 : decode cX5_fails 9 = .ok (.iload_n 1, 1) := by decide +kernel
theorem dX5_fails_10 : decode cX5_fails 10 = .ok (.ireturn, 1) := by decide +kernel
theorem dX5_at_0 : decode cX5_at 0 = .ok (.bipush 11, 2) := by decide +kernel
theorem dX5_at_2 : decode cX5_at 2 = .ok (.iconst 5, 1) := by decide +kernel
theorem dX5_at_3 : decode cX5_at 3 = .ok (.iload_n 0, 1) := by decide +kernel
theorem dX5_at_4 : decode cX5_at 4 = .ok (.imul, 1) := by decide +kernel
theorem dX5_at_5 : decode cX5_at 5 = .ok (.iadd, 1) := by decide +kernel
theorem dX5_at_6 : decode cX5_at 6 = .ok (.ireturn, 1) := by decide +kernel
theorem dX5_arrival_0 : decode cX5_arrival 0 = .ok (.aload_n 0, 1) := by decide +kernel
theorem dX5_arrival_1 : decode cX5_arrival 1 = .ok (.getfield 7, 3) := by decide +kernel
theorem dX5_arrival_4 : decode cX5_arrival 4 = .ok (.iload_n 1, 1) := by decide +kernel
theorem dX5_arrival_5 : decode cX5_arrival 5 = .ok (.invokestatic 30, 3) := by decide +kernel
theorem dX5_arrival_8 : decode cX5_arrival 8 = .ok (.iaload, 1) := by decide +kernel
theorem dX5_arrival_9 : decode cX5_arrival 9 = .ok (.ireturn, 1) := by decide +kernel
theorem dX5_origin_0 : decode cX5_origin 0 = .ok (.aload_n 0, 1) := by decide +kernel
theorem dX5_origin_1 : decode cX5_origin 1 = .ok (.getfield 7, 3) := by decide +kernel
theorem dX5_origin_4 : decode cX5_origin 4 = .ok (.iload_n 1, 1) := by decide +kernel
theorem dX5_origin_5 : decode cX5_origin 5 = .ok (.invokestatic 30, 3) := by decide +kernel
theorem dX5_origin_8 : decode cX5_origin 8 = .ok (.iconst 1, 1) := by decide +kernel
theorem dX5_origin_9 : decode cX5_origin 9 = .ok (.iadd, 1) := by decide +kernel
theorem dX5_origin_10 : decode cX5_origin 10 = .ok (.iaload, 1) := by decide +kernel
theorem dX5_origin_11 : decode cX5_origin 11 = .ok (.ireturn, 1) := by decide +kernel
theorem dX5_destination_0 : decode cX5_destination 0 = .ok (.aload_n 0, 1) := by decide +kernel
theorem dX5_destination_1 : decode cX5_destination 1 = .ok (.getfield 7, 3) := by decide +kernel
theorem dX5_destination_4 : decode cX5_destination 4 = .ok (.iload_n 1, 1) := by decide +kernel
theorem dX5_destination_5 : decode cX5_destination 5 = .ok (.invokestatic 30, 3) := by decide +kernel
theorem dX5_destination_8 : decode cX5_destination 8 = .ok (.iconst 2, 1) := by decide +kernel
theorem dX5_destination_9 : decode cX5_destination 9 = .ok (.iadd, 1) := by decide +kernel
theorem dX5_destination_10 : decode cX5_destination 10 = .ok (.iaload, 1) := by decide +kernel
theorem dX5_destination_11 : decode cX5_destination 11 = .ok (.ireturn, 1) := by decide +kernel
theorem dX5_boarded_0 : decode cX5_boarded 0 = .ok (.aload_n 0, 1) := by decide +kernel
theorem dX5_boarded_1 : decode cX5_boarded 1 = .ok (.getfield 7, 3) := by decide +kernel
theorem dX5_boarded_4 : decode cX5_boarded 4 = .ok (.iload_n 1, 1) := by decide +kernel
theorem dX5_boarded_5 : decode cX5_boarded 5 = .ok (.invokestatic 30, 3) := by decide +kernel
theorem dX5_boarded_8 : decode cX5_boarded 8 = .ok (.iconst 3, 1) := by decide +kernel
theorem dX5_boarded_9 : decode cX5_boarded 9 = .ok (.iadd, 1) := by decide +kernel
theorem dX5_boarded_10 : decode cX5_boarded 10 = .ok (.iaload, 1) := by decide +kernel
theorem dX5_boarded_11 : decode cX5_boarded 11 = .ok (.ireturn, 1) := by decide +kernel
theorem dX5_left_0 : decode cX5_left 0 = .ok (.aload_n 0, 1) := by decide +kernel
theorem dX5_left_1 : decode cX5_left 1 = .ok (.getfield 7, 3) := by decide +kernel
theorem dX5_left_4 : decode cX5_left 4 = .ok (.iload_n 1, 1) := by decide +kernel
theorem dX5_left_5 : decode cX5_left 5 = .ok (.invokestatic 30, 3) := by decide +kernel
theorem dX5_left_8 : decode cX5_left 8 = .ok (.iconst 4, 1) := by decide +kernel
theorem dX5_left_9 : decode cX5_left 9 = .ok (.iadd, 1) := by decide +kernel
theorem dX5_left_10 : decode cX5_left 10 = .ok (.iaload, 1) := by decide +kernel
theorem dX5_left_11 : decode cX5_left 11 = .ok (.ireturn, 1) := by decide +kernel
theorem dX5_status_0 : decode cX5_status 0 = .ok (.aload_n 0, 1) := by decide +kernel
theorem dX5_status_1 : decode cX5_status 1 = .ok (.iload_n 1, 1) := by decide +kernel
theorem dX5_status_2 : decode cX5_status 2 = .ok (.invokevirtual 34, 3) := by decide +kernel
theorem dX5_status_5 : decode cX5_status 5 = .ok (.iconst (-1), 1) := by decide +kernel
theorem dX5_status_6 : decode cX5_status 6 = .ok (.if_icmp .eq 5, 3) := by decide +kernel
theorem dX5_status_9 : decode cX5_status 9 = .ok (.iconst 3, 1) := by decide +kernel
theorem dX5_status_10 : decode cX5_status 10 = .ok (.ireturn, 1) := by decide +kernel
theorem dX5_status_11 : decode cX5_status 11 = .ok (.aload_n 0, 1) := by decide +kernel
theorem dX5_status_12 : decode cX5_status 12 = .ok (.iload_n 1, 1) := by decide +kernel
theorem dX5_status_13 : decode cX5_status 13 = .ok (.invokevirtual 37, 3) := by decide +kernel
theorem dX5_status_16 : decode cX5_status 16 = .ok (.iconst (-1), 1) := by decide +kernel
theorem dX5_status_17 : decode cX5_status 17 = .ok (.if_icmp .eq 7, 3) := by decide +kernel
theorem dX5_status_20 : decode cX5_status 20 = .ok (.iconst 2, 1) := by decide +kernel
theorem dX5_status_21 : decode cX5_status 21 = .ok (.goto 22, 3) := by decide +kernel
theorem dX5_status_24 : decode cX5_status 24 = .ok (.aload_n 0, 1) := by decide +kernel
theorem dX5_status_25 : decode cX5_status 25 = .ok (.getfield 7, 3) := by decide +kernel
theorem dX5_status_28 : decode cX5_status 28 = .ok (.iconst 3, 1) := by decide +kernel
theorem dX5_status_29 : decode cX5_status 29 = .ok (.iaload, 1) := by decide +kernel
theorem dX5_status_30 : decode cX5_status 30 = .ok (.aload_n 0, 1) := by decide +kernel
theorem dX5_status_31 : decode cX5_status 31 = .ok (.iload_n 1, 1) := by decide +kernel
theorem dX5_status_32 : decode cX5_status 32 = .ok (.invokevirtual 40, 3) := by decide +kernel
theorem dX5_status_35 : decode cX5_status 35 = .ok (.if_icmp .ge 7, 3) := by decide +kernel
theorem dX5_status_38 : decode cX5_status 38 = .ok (.iconst 0, 1) := by decide +kernel
theorem dX5_status_39 : decode cX5_status 39 = .ok (.goto 4, 3) := by decide +kernel
theorem dX5_status_42 : decode cX5_status 42 = .ok (.iconst 1, 1) := by decide +kernel
theorem dX5_status_43 : decode cX5_status 43 = .ok (.ireturn, 1) := by decide +kernel
theorem dX5_many_0 : decode cX5_many 0 = .ok (.iconst 0, 1) := by decide +kernel
theorem dX5_many_1 : decode cX5_many 1 = .ok (.istore_n 2, 1) := by decide +kernel
theorem dX5_many_2 : decode cX5_many 2 = .ok (.iconst 0, 1) := by decide +kernel
theorem dX5_many_3 : decode cX5_many 3 = .ok (.istore_n 3, 1) := by decide +kernel
theorem dX5_many_4 : decode cX5_many 4 = .ok (.iload_n 3, 1) := by decide +kernel
theorem dX5_many_5 : decode cX5_many 5 = .ok (.aload_n 0, 1) := by decide +kernel
theorem dX5_many_6 : decode cX5_many 6 = .ok (.getfield 7, 3) := by decide +kernel
theorem dX5_many_9 : decode cX5_many 9 = .ok (.bipush 10, 2) := by decide +kernel
theorem dX5_many_11 : decode cX5_many 11 = .ok (.iaload, 1) := by decide +kernel
theorem dX5_many_12 : decode cX5_many 12 = .ok (.if_icmp .ge 26, 3) := by decide +kernel
theorem dX5_many_15 : decode cX5_many 15 = .ok (.iload_n 2, 1) := by decide +kernel
theorem dX5_many_16 : decode cX5_many 16 = .ok (.aload_n 0, 1) := by decide +kernel
theorem dX5_many_17 : decode cX5_many 17 = .ok (.iload_n 3, 1) := by decide +kernel
theorem dX5_many_18 : decode cX5_many 18 = .ok (.invokevirtual 43, 3) := by decide +kernel
theorem dX5_many_21 : decode cX5_many 21 = .ok (.iload_n 1, 1) := by decide +kernel
theorem dX5_many_22 : decode cX5_many 22 = .ok (.if_icmp .ne 7, 3) := by decide +kernel
theorem dX5_many_25 : decode cX5_many 25 = .ok (.iconst 1, 1) := by decide +kernel
theorem dX5_many_26 : decode cX5_many 26 = .ok (.goto 4, 3) := by decide +kernel
theorem dX5_many_29 : decode cX5_many 29 = .ok (.iconst 0, 1) := by decide +kernel
theorem dX5_many_30 : decode cX5_many 30 = .ok (.iadd, 1) := by decide +kernel
theorem dX5_many_31 : decode cX5_many 31 = .ok (.istore_n 2, 1) := by decide +kernel
theorem dX5_many_32 : decode cX5_many 32 = .ok (.iinc 3 1, 3) := by decide +kernel
theorem dX5_many_35 : decode cX5_many 35 = .ok (.goto (-31), 3) := by decide +kernel
theorem dX5_many_38 : decode cX5_many 38 = .ok (.iload_n 2, 1) := by decide +kernel
theorem dX5_many_39 : decode cX5_many 39 = .ok (.ireturn, 1) := by decide +kernel
theorem dX5_full_0 : decode cX5_full 0 = .ok (.aload_n 0, 1) := by decide +kernel
theorem dX5_full_1 : decode cX5_full 1 = .ok (.iconst 2, 1) := by decide +kernel
theorem dX5_full_2 : decode cX5_full 2 = .ok (.invokevirtual 46, 3) := by decide +kernel
theorem dX5_full_5 : decode cX5_full 5 = .ok (.aload_n 0, 1) := by decide +kernel
theorem dX5_full_6 : decode cX5_full 6 = .ok (.getfield 7, 3) := by decide +kernel
theorem dX5_full_9 : decode cX5_full 9 = .ok (.iconst 1, 1) := by decide +kernel
theorem dX5_full_10 : decode cX5_full 10 = .ok (.iaload, 1) := by decide +kernel
theorem dX5_full_11 : decode cX5_full 11 = .ok (.if_icmp .ne 7, 3) := by decide +kernel
theorem dX5_full_14 : decode cX5_full 14 = .ok (.iconst 1, 1) := by decide +kernel
theorem dX5_full_15 : decode cX5_full 15 = .ok (.goto 4, 3) := by decide +kernel
theorem dX5_full_18 : decode cX5_full 18 = .ok (.iconst 0, 1) := by decide +kernel
theorem dX5_full_19 : decode cX5_full 19 = .ok (.ireturn, 1) := by decide +kernel
theorem dX5_finished_0 : decode cX5_finished 0 = .ok (.aload_n 0, 1) := by decide +kernel
theorem dX5_finished_1 : decode cX5_finished 1 = .ok (.iconst 3, 1) := by decide +kernel
theorem dX5_finished_2 : decode cX5_finished 2 = .ok (.invokevirtual 46, 3) := by decide +kernel
theorem dX5_finished_5 : decode cX5_finished 5 = .ok (.aload_n 0, 1) := by decide +kernel
theorem dX5_finished_6 : decode cX5_finished 6 = .ok (.getfield 7, 3) := by decide +kernel
theorem dX5_finished_9 : decode cX5_finished 9 = .ok (.bipush 10, 2) := by decide +kernel
theorem dX5_finished_11 : decode cX5_finished 11 = .ok (.iaload, 1) := by decide +kernel
theorem dX5_finished_12 : decode cX5_finished 12 = .ok (.if_icmp .ne 7, 3) := by decide +kernel
theorem dX5_finished_15 : decode cX5_finished 15 = .ok (.iconst 1, 1) := by decide +kernel
theorem dX5_finished_16 : decode cX5_finished 16 = .ok (.goto 4, 3) := by decide +kernel
theorem dX5_finished_19 : decode cX5_finished 19 = .ok (.iconst 0, 1) := by decide +kernel
theorem dX5_finished_20 : decode cX5_finished 20 = .ok (.ireturn, 1) := by decide +kernel
theorem dX5_isAhead_0 : decode cX5_isAhead 0 = .ok (.aload_n 0, 1) := by decide +kernel
theorem dX5_isAhead_1 : decode cX5_isAhead 1 = .ok (.iload_n 1, 1) := by decide +kernel
theorem dX5_isAhead_2 : decode cX5_isAhead 2 = .ok (.invokevirtual 40, 3) := by decide +kernel
theorem dX5_isAhead_5 : decode cX5_isAhead 5 = .ok (.aload_n 0, 1) := by decide +kernel
theorem dX5_isAhead_6 : decode cX5_isAhead 6 = .ok (.iload_n 2, 1) := by decide +kernel
theorem dX5_isAhead_7 : decode cX5_isAhead 7 = .ok (.invokevirtual 40, 3) := by decide +kernel
theorem dX5_isAhead_10 : decode cX5_isAhead 10 = .ok (.if_icmp .lt 21, 3) := by decide +kernel
theorem dX5_isAhead_13 : decode cX5_isAhead 13 = .ok (.aload_n 0, 1) := by decide +kernel
theorem dX5_isAhead_14 : decode cX5_isAhead 14 = .ok (.iload_n 1, 1) := by decide +kernel
theorem dX5_isAhead_15 : decode cX5_isAhead 15 = .ok (.invokevirtual 40, 3) := by decide +kernel
theorem dX5_isAhead_18 : decode cX5_isAhead 18 = .ok (.aload_n 0, 1) := by decide +kernel
theorem dX5_isAhead_19 : decode cX5_isAhead 19 = .ok (.iload_n 2, 1) := by decide +kernel
theorem dX5_isAhead_20 : decode cX5_isAhead 20 = .ok (.invokevirtual 40, 3) := by decide +kernel
theorem dX5_isAhead_23 : decode cX5_isAhead 23 = .ok (.if_icmp .ne 12, 3) := by decide +kernel
theorem dX5_isAhead_26 : decode cX5_isAhead 26 = .ok (.iload_n 1, 1) := by decide +kernel
theorem dX5_isAhead_27 : decode cX5_isAhead 27 = .ok (.iload_n 2, 1) := by decide +kernel
theorem dX5_isAhead_28 : decode cX5_isAhead 28 = .ok (.if_icmp .ge 7, 3) := by decide +kernel
theorem dX5_isAhead_31 : decode cX5_isAhead 31 = .ok (.iconst 1, 1) := by decide +kernel
theorem dX5_isAhead_32 : decode cX5_isAhead 32 = .ok (.goto 4, 3) := by decide +kernel
theorem dX5_isAhead_35 : decode cX5_isAhead 35 = .ok (.iconst 0, 1) := by decide +kernel
theorem dX5_isAhead_36 : decode cX5_isAhead 36 = .ok (.ireturn, 1) := by decide +kernel
theorem dX5_first_0 : decode cX5_first 0 = .ok (.iconst (-1), 1) := by decide +kernel
theorem dX5_first_1 : decode cX5_first 1 = .ok (.istore_n 2, 1) := by decide +kernel
theorem dX5_first_2 : decode cX5_first 2 = .ok (.iconst 0, 1) := by decide +kernel
theorem dX5_first_3 : decode cX5_first 3 = .ok (.istore_n 3, 1) := by decide +kernel
theorem dX5_first_4 : decode cX5_first 4 = .ok (.iload_n 3, 1) := by decide +kernel
theorem dX5_first_5 : decode cX5_first 5 = .ok (.aload_n 0, 1) := by decide +kernel
theorem dX5_first_6 : decode cX5_first 6 = .ok (.getfield 7, 3) := by decide +kernel
theorem dX5_first_9 : decode cX5_first 9 = .ok (.bipush 10, 2) := by decide +kernel
theorem dX5_first_11 : decode cX5_first 11 = .ok (.iaload, 1) := by decide +kernel
theorem dX5_first_12 : decode cX5_first 12 = .ok (.if_icmp .ge 64, 3) := by decide +kernel
theorem dX5_first_15 : decode cX5_first 15 = .ok (.aload_n 0, 1) := by decide +kernel
theorem dX5_first_16 : decode cX5_first 16 = .ok (.iload_n 3, 1) := by decide +kernel
theorem dX5_first_17 : decode cX5_first 17 = .ok (.invokevirtual 43, 3) := by decide +kernel
theorem dX5_first_20 : decode cX5_first 20 = .ok (.iconst 1, 1) := by decide +kernel
theorem dX5_first_21 : decode cX5_first 21 = .ok (.if_icmp .ne 21, 3) := by decide +kernel
theorem dX5_first_24 : decode cX5_first 24 = .ok (.iload_n 1, 1) := by decide +kernel
theorem dX5_first_25 : decode cX5_first 25 = .ok (.iconst (-1), 1) := by decide +kernel
theorem dX5_first_26 : decode cX5_first 26 = .ok (.if_icmp .eq 12, 3) := by decide +kernel
theorem dX5_first_29 : decode cX5_first 29 = .ok (.aload_n 0, 1) := by decide +kernel
theorem dX5_first_30 : decode cX5_first 30 = .ok (.iload_n 3, 1) := by decide +kernel
theorem dX5_first_31 : decode cX5_first 31 = .ok (.invokevirtual 49, 3) := by decide +kernel
theorem dX5_first_34 : decode cX5_first 34 = .ok (.iload_n 1, 1) := by decide +kernel
theorem dX5_first_35 : decode cX5_first 35 = .ok (.if_icmp .ne 7, 3) := by decide +kernel
theorem dX5_first_38 : decode cX5_first 38 = .ok (.iconst 1, 1) := by decide +kernel
theorem dX5_first_39 : decode cX5_first 39 = .ok (.goto 4, 3) := by decide +kernel
theorem dX5_first_42 : decode cX5_first 42 = .ok (.iconst 0, 1) := by decide +kernel
theorem dX5_first_43 : decode cX5_first 43 = .ok (.istore 4, 2) := by decide +kernel
theorem dX5_first_45 : decode cX5_first 45 = .ok (.iload 4, 2) := by decide +kernel
theorem dX5_first_47 : decode cX5_first 47 = .ok (.ifCond .eq 21, 3) := by decide +kernel
theorem dX5_first_50 : decode cX5_first 50 = .ok (.iload_n 2, 1) := by decide +kernel
theorem dX5_first_51 : decode cX5_first 51 = .ok (.iconst (-1), 1) := by decide +kernel
theorem dX5_first_52 : decode cX5_first 52 = .ok (.if_icmp .eq 12, 3) := by decide +kernel
theorem dX5_first_55 : decode cX5_first 55 = .ok (.aload_n 0, 1) := by decide +kernel
theorem dX5_first_56 : decode cX5_first 56 = .ok (.iload_n 3, 1) := by decide +kernel
theorem dX5_first_57 : decode cX5_first 57 = .ok (.iload_n 2, 1) := by decide +kernel
theorem dX5_first_58 : decode cX5_first 58 = .ok (.invokevirtual 52, 3) := by decide +kernel
theorem dX5_first_61 : decode cX5_first 61 = .ok (.ifCond .eq 7, 3) := by decide +kernel
theorem dX5_first_64 : decode cX5_first 64 = .ok (.iload_n 3, 1) := by decide +kernel
theorem dX5_first_65 : decode cX5_first 65 = .ok (.goto 4, 3) := by decide +kernel
theorem dX5_first_68 : decode cX5_first 68 = .ok (.iload_n 2, 1) := by decide +kernel
theorem dX5_first_69 : decode cX5_first 69 = .ok (.istore_n 2, 1) := by decide +kernel
theorem dX5_first_70 : decode cX5_first 70 = .ok (.iinc 3 1, 3) := by decide +kernel
theorem dX5_first_73 : decode cX5_first 73 = .ok (.goto (-69), 3) := by decide +kernel
theorem dX5_first_76 : decode cX5_first 76 = .ok (.iload_n 2, 1) := by decide +kernel
theorem dX5_first_77 : decode cX5_first 77 = .ok (.ireturn, 1) := by decide +kernel
theorem dX5_adds_0 : decode cX5_adds 0 = .ok (.aload_n 0, 1) := by decide +kernel
theorem dX5_adds_1 : decode cX5_adds 1 = .ok (.getfield 7, 3) := by decide +kernel
theorem dX5_adds_4 : decode cX5_adds 4 = .ok (.bipush 10, 2) := by decide +kernel
theorem dX5_adds_6 : decode cX5_adds 6 = .ok (.iaload, 1) := by decide +kernel
theorem dX5_adds_7 : decode cX5_adds 7 = .ok (.invokestatic 30, 3) := by decide +kernel
theorem dX5_adds_10 : decode cX5_adds 10 = .ok (.istore 4, 2) := by decide +kernel
theorem dX5_adds_12 : decode cX5_adds 12 = .ok (.aload_n 0, 1) := by decide +kernel
theorem dX5_adds_13 : decode cX5_adds 13 = .ok (.getfield 7, 3) := by decide +kernel
theorem dX5_adds_16 : decode cX5_adds 16 = .ok (.iload 4, 2) := by decide +kernel
theorem dX5_adds_18 : decode cX5_adds 18 = .ok (.iload_n 3, 1) := by decide +kernel
theorem dX5_adds_19 : decode cX5_adds 19 = .ok (.iastore, 1) := by decide +kernel
theorem dX5_adds_20 : decode cX5_adds 20 = .ok (.aload_n 0, 1) := by decide +kernel
theorem dX5_adds_21 : decode cX5_adds 21 = .ok (.getfield 7, 3) := by decide +kernel
theorem dX5_adds_24 : decode cX5_adds 24 = .ok (.iload 4, 2) := by decide +kernel
theorem dX5_adds_26 : decode cX5_adds 26 = .ok (.iconst 1, 1) := by decide +kernel
theorem dX5_adds_27 : decode cX5_adds 27 = .ok (.iadd, 1) := by decide +kernel
theorem dX5_adds_28 : decode cX5_adds 28 = .ok (.iload_n 1, 1) := by decide +kernel
theorem dX5_adds_29 : decode cX5_adds 29 = .ok (.iastore, 1) := by decide +kernel
theorem dX5_adds_30 : decode cX5_adds 30 = .ok (.aload_n 0, 1) := by decide +kernel
theorem dX5_adds_31 : decode cX5_adds 31 = .ok (.getfield 7, 3) := by decide +kernel
theorem dX5_adds_34 : decode cX5_adds 34 = .ok (.iload 4, 2) := by decide +kernel
theorem dX5_adds_36 : decode cX5_adds 36 = .ok (.iconst 2, 1) := by decide +kernel
theorem dX5_adds_37 : decode cX5_adds 37 = .ok (.iadd, 1) := by decide +kernel
theorem dX5_adds_38 : decode cX5_adds 38 = .ok (.iload_n 2, 1) := by decide +kernel
theorem dX5_adds_39 : decode cX5_adds 39 = .ok (.iastore, 1) := by decide +kernel
theorem dX5_adds_40 : decode cX5_adds 40 = .ok (.aload_n 0, 1) := by decide +kernel
theorem dX5_adds_41 : decode cX5_adds 41 = .ok (.getfield 7, 3) := by decide +kernel
theorem dX5_adds_44 : decode cX5_adds 44 = .ok (.iload 4, 2) := by decide +kernel
theorem dX5_adds_46 : decode cX5_adds 46 = .ok (.iconst 3, 1) := by decide +kernel
theorem dX5_adds_47 : decode cX5_adds 47 = .ok (.iadd, 1) := by decide +kernel
theorem dX5_adds_48 : decode cX5_adds 48 = .ok (.iconst (-1), 1) := by decide +kernel
theorem dX5_adds_49 : decode cX5_adds 49 = .ok (.iastore, 1) := by decide +kernel
theorem dX5_adds_50 : decode cX5_adds 50 = .ok (.aload_n 0, 1) := by decide +kernel
theorem dX5_adds_51 : decode cX5_adds 51 = .ok (.getfield 7, 3) := by decide +kernel
theorem dX5_adds_54 : decode cX5_adds 54 = .ok (.iload 4, 2) := by decide +kernel
theorem dX5_adds_56 : decode cX5_adds 56 = .ok (.iconst 4, 1) := by decide +kernel
theorem dX5_adds_57 : decode cX5_adds 57 = .ok (.iadd, 1) := by decide +kernel
theorem dX5_adds_58 : decode cX5_adds 58 = .ok (.iconst (-1), 1) := by decide +kernel
theorem dX5_adds_59 : decode cX5_adds 59 = .ok (.iastore, 1) := by decide +kernel
theorem dX5_adds_60 : decode cX5_adds 60 = .ok (.aload_n 0, 1) := by decide +kernel
theorem dX5_adds_61 : decode cX5_adds 61 = .ok (.getfield 7, 3) := by decide +kernel
theorem dX5_adds_64 : decode cX5_adds 64 = .ok (.bipush 10, 2) := by decide +kernel
theorem dX5_adds_66 : decode cX5_adds 66 = .ok (.dup2, 1) := by decide +kernel
theorem dX5_adds_67 : decode cX5_adds 67 = .ok (.iaload, 1) := by decide +kernel
theorem dX5_adds_68 : decode cX5_adds 68 = .ok (.iconst 1, 1) := by decide +kernel
theorem dX5_adds_69 : decode cX5_adds 69 = .ok (.iadd, 1) := by decide +kernel
theorem dX5_adds_70 : decode cX5_adds 70 = .ok (.iastore, 1) := by decide +kernel
theorem dX5_adds_71 : decode cX5_adds 71 = .ok (.return_, 1) := by decide +kernel
theorem dX5_stops_0 : decode cX5_stops 0 = .ok (.aload_n 0, 1) := by decide +kernel
theorem dX5_stops_1 : decode cX5_stops 1 = .ok (.invokevirtual 56, 3) := by decide +kernel
theorem dX5_stops_4 : decode cX5_stops 4 = .ok (.ifCond .ne 7, 3) := by decide +kernel
theorem dX5_stops_7 : decode cX5_stops 7 = .ok (.iconst 1, 1) := by decide +kernel
theorem dX5_stops_8 : decode cX5_stops 8 = .ok (.goto 4, 3) := by decide +kernel
theorem dX5_stops_11 : decode cX5_stops 11 = .ok (.iconst 0, 1) := by decide +kernel
theorem dX5_stops_12 : decode cX5_stops 12 = .ok (.istore_n 1, 1) := by decide +kernel
theorem dX5_stops_13 : decode cX5_stops 13 = .ok (.iconst 0, 1) := by decide +kernel
theorem dX5_stops_14 : decode cX5_stops 14 = .ok (.istore_n 2, 1) := by decide +kernel
theorem dX5_stops_15 : decode cX5_stops 15 = .ok (.iconst 0, 1) := by decide +kernel
theorem dX5_stops_16 : decode cX5_stops 16 = .ok (.istore_n 3, 1) := by decide +kernel
theorem dX5_stops_17 : decode cX5_stops 17 = .ok (.iload_n 3, 1) := by decide +kernel
theorem dX5_stops_18 : decode cX5_stops 18 = .ok (.aload_n 0, 1) := by decide +kernel
theorem dX5_stops_19 : decode cX5_stops 19 = .ok (.getfield 7, 3) := by decide +kernel
theorem dX5_stops_22 : decode cX5_stops 22 = .ok (.bipush 10, 2) := by decide +kernel
theorem dX5_stops_24 : decode cX5_stops 24 = .ok (.iaload, 1) := by decide +kernel
theorem dX5_stops_25 : decode cX5_stops 25 = .ok (.if_icmp .ge 59, 3) := by decide +kernel
theorem dX5_stops_28 : decode cX5_stops 28 = .ok (.iload_n 2, 1) := by decide +kernel
theorem dX5_stops_29 : decode cX5_stops 29 = .ok (.aload_n 0, 1) := by decide +kernel
theorem dX5_stops_30 : decode cX5_stops 30 = .ok (.iload_n 3, 1) := by decide +kernel
theorem dX5_stops_31 : decode cX5_stops 31 = .ok (.invokevirtual 43, 3) := by decide +kernel
theorem dX5_stops_34 : decode cX5_stops 34 = .ok (.iconst 2, 1) := by decide +kernel
theorem dX5_stops_35 : decode cX5_stops 35 = .ok (.if_icmp .ne 13, 3) := by decide +kernel
theorem dX5_stops_38 : decode cX5_stops 38 = .ok (.iconst 1, 1) := by decide +kernel
theorem dX5_stops_39 : decode cX5_stops 39 = .ok (.aload_n 0, 1) := by decide +kernel
theorem dX5_stops_40 : decode cX5_stops 40 = .ok (.iload_n 3, 1) := by decide +kernel
theorem dX5_stops_41 : decode cX5_stops 41 = .ok (.invokevirtual 60, 3) := by decide +kernel
theorem dX5_stops_44 : decode cX5_stops 44 = .ok (.ishl, 1) := by decide +kernel
theorem dX5_stops_45 : decode cX5_stops 45 = .ok (.goto 4, 3) := by decide +kernel
theorem dX5_stops_48 : decode cX5_stops 48 = .ok (.iconst 0, 1) := by decide +kernel
theorem dX5_stops_49 : decode cX5_stops 49 = .ok (.ior, 1) := by decide +kernel
theorem dX5_stops_50 : decode cX5_stops 50 = .ok (.istore_n 2, 1) := by decide +kernel
theorem dX5_stops_51 : decode cX5_stops 51 = .ok (.iload_n 2, 1) := by decide +kernel
theorem dX5_stops_52 : decode cX5_stops 52 = .ok (.aload_n 0, 1) := by decide +kernel
theorem dX5_stops_53 : decode cX5_stops 53 = .ok (.iload_n 3, 1) := by decide +kernel
theorem dX5_stops_54 : decode cX5_stops 54 = .ok (.invokevirtual 43, 3) := by decide +kernel
theorem dX5_stops_57 : decode cX5_stops 57 = .ok (.iconst 1, 1) := by decide +kernel
theorem dX5_stops_58 : decode cX5_stops 58 = .ok (.if_icmp .ne 17, 3) := by decide +kernel
theorem dX5_stops_61 : decode cX5_stops 61 = .ok (.iload_n 1, 1) := by decide +kernel
theorem dX5_stops_62 : decode cX5_stops 62 = .ok (.ifCond .eq 13, 3) := by decide +kernel
theorem dX5_stops_65 : decode cX5_stops 65 = .ok (.iconst 1, 1) := by decide +kernel
theorem dX5_stops_66 : decode cX5_stops 66 = .ok (.aload_n 0, 1) := by decide +kernel
theorem dX5_stops_67 : decode cX5_stops 67 = .ok (.iload_n 3, 1) := by decide +kernel
theorem dX5_stops_68 : decode cX5_stops 68 = .ok (.invokevirtual 49, 3) := by decide +kernel
theorem dX5_stops_71 : decode cX5_stops 71 = .ok (.ishl, 1) := by decide +kernel
theorem dX5_stops_72 : decode cX5_stops 72 = .ok (.goto 4, 3) := by decide +kernel
theorem dX5_stops_75 : decode cX5_stops 75 = .ok (.iconst 0, 1) := by decide +kernel
theorem dX5_stops_76 : decode cX5_stops 76 = .ok (.ior, 1) := by decide +kernel
theorem dX5_stops_77 : decode cX5_stops 77 = .ok (.istore_n 2, 1) := by decide +kernel
theorem dX5_stops_78 : decode cX5_stops 78 = .ok (.iinc 3 1, 3) := by decide +kernel
theorem dX5_stops_81 : decode cX5_stops 81 = .ok (.goto (-64), 3) := by decide +kernel
theorem dX5_stops_84 : decode cX5_stops 84 = .ok (.iload_n 2, 1) := by decide +kernel
theorem dX5_stops_85 : decode cX5_stops 85 = .ok (.ireturn, 1) := by decide +kernel
theorem dX5_has_0 : decode cX5_has 0 = .ok (.iload_n 0, 1) := by decide +kernel
theorem dX5_has_1 : decode cX5_has 1 = .ok (.iload_n 1, 1) := by decide +kernel
theorem dX5_has_2 : decode cX5_has 2 = .ok (.ishr, 1) := by decide +kernel
theorem dX5_has_3 : decode cX5_has 3 = .ok (.iconst 1, 1) := by decide +kernel
theorem dX5_has_4 : decode cX5_has 4 = .ok (.iand, 1) := by decide +kernel
theorem dX5_has_5 : decode cX5_has 5 = .ok (.iconst 1, 1) := by decide +kernel
theorem dX5_has_6 : decode cX5_has 6 = .ok (.if_icmp .ne 7, 3) := by decide +kernel
theorem dX5_has_9 : decode cX5_has 9 = .ok (.iconst 1, 1) := by decide +kernel
theorem dX5_has_10 : decode cX5_has 10 = .ok (.goto 4, 3) := by decide +kernel
theorem dX5_has_13 : decode cX5_has 13 = .ok (.iconst 0, 1) := by decide +kernel
theorem dX5_has_14 : decode cX5_has 14 = .ok (.ireturn, 1) := by decide +kernel
theorem dX5_nearestIn_0 : decode cX5_nearestIn 0 = .ok (.iconst 1, 1) := by decide +kernel
theorem dX5_nearestIn_1 : decode cX5_nearestIn 1 = .ok (.istore_n 3, 1) := by decide +kernel
theorem dX5_nearestIn_2 : decode cX5_nearestIn 2 = .ok (.iload_n 3, 1) := by decide +kernel
theorem dX5_nearestIn_3 : decode cX5_nearestIn 3 = .ok (.aload_n 0, 1) := by decide +kernel
theorem dX5_nearestIn_4 : decode cX5_nearestIn 4 = .ok (.getfield 7, 3) := by decide +kernel
theorem dX5_nearestIn_7 : decode cX5_nearestIn 7 = .ok (.iconst 0, 1) := by decide +kernel
theorem dX5_nearestIn_8 : decode cX5_nearestIn 8 = .ok (.iaload, 1) := by decide +kernel
theorem dX5_nearestIn_9 : decode cX5_nearestIn 9 = .ok (.if_icmp .ge 57, 3) := by decide +kernel
theorem dX5_nearestIn_12 : decode cX5_nearestIn 12 = .ok (.aload_n 0, 1) := by decide +kernel
theorem dX5_nearestIn_13 : decode cX5_nearestIn 13 = .ok (.getfield 7, 3) := by decide +kernel
theorem dX5_nearestIn_16 : decode cX5_nearestIn 16 = .ok (.iconst 4, 1) := by decide +kernel
theorem dX5_nearestIn_17 : decode cX5_nearestIn 17 = .ok (.iaload, 1) := by decide +kernel
theorem dX5_nearestIn_18 : decode cX5_nearestIn 18 = .ok (.iload_n 2, 1) := by decide +kernel
theorem dX5_nearestIn_19 : decode cX5_nearestIn 19 = .ok (.ifCond .eq 7, 3) := by decide +kernel
theorem dX5_nearestIn_22 : decode cX5_nearestIn 22 = .ok (.iload_n 3, 1) := by decide +kernel
theorem dX5_nearestIn_23 : decode cX5_nearestIn 23 = .ok (.goto 5, 3) := by decide +kernel
theorem dX5_nearestIn_26 : decode cX5_nearestIn 26 = .ok (.iload_n 3, 1) := by decide +kernel
theorem dX5_nearestIn_27 : decode cX5_nearestIn 27 = .ok (.ineg, 1) := by decide +kernel
theorem dX5_nearestIn_28 : decode cX5_nearestIn 28 = .ok (.iadd, 1) := by decide +kernel
theorem dX5_nearestIn_29 : decode cX5_nearestIn 29 = .ok (.istore 4, 2) := by decide +kernel
theorem dX5_nearestIn_31 : decode cX5_nearestIn 31 = .ok (.iload 4, 2) := by decide +kernel
theorem dX5_nearestIn_33 : decode cX5_nearestIn 33 = .ok (.iconst 0, 1) := by decide +kernel
theorem dX5_nearestIn_34 : decode cX5_nearestIn 34 = .ok (.aload_n 0, 1) := by decide +kernel
theorem dX5_nearestIn_35 : decode cX5_nearestIn 35 = .ok (.getfield 7, 3) := by decide +kernel
theorem dX5_nearestIn_38 : decode cX5_nearestIn 38 = .ok (.iconst 0, 1) := by decide +kernel
theorem dX5_nearestIn_39 : decode cX5_nearestIn 39 = .ok (.iaload, 1) := by decide +kernel
theorem dX5_nearestIn_40 : decode cX5_nearestIn 40 = .ok (.iconst 1, 1) := by decide +kernel
theorem dX5_nearestIn_41 : decode cX5_nearestIn 41 = .ok (.isub, 1) := by decide +kernel
theorem dX5_nearestIn_42 : decode cX5_nearestIn 42 = .ok (.invokestatic 63, 3) := by decide +kernel
theorem dX5_nearestIn_45 : decode cX5_nearestIn 45 = .ok (.ifCond .eq 15, 3) := by decide +kernel
theorem dX5_nearestIn_48 : decode cX5_nearestIn 48 = .ok (.iload_n 1, 1) := by decide +kernel
theorem dX5_nearestIn_49 : decode cX5_nearestIn 49 = .ok (.iload 4, 2) := by decide +kernel
theorem dX5_nearestIn_51 : decode cX5_nearestIn 51 = .ok (.invokestatic 67, 3) := by decide +kernel
theorem dX5_nearestIn_54 : decode cX5_nearestIn 54 = .ok (.ifCond .eq 6, 3) := by decide +kernel
theorem dX5_nearestIn_57 : decode cX5_nearestIn 57 = .ok (.iload 4, 2) := by decide +kernel
theorem dX5_nearestIn_59 : decode cX5_nearestIn 59 = .ok (.ireturn, 1) := by decide +kernel
theorem dX5_nearestIn_60 : decode cX5_nearestIn 60 = .ok (.iinc 3 1, 3) := by decide +kernel
theorem dX5_nearestIn_63 : decode cX5_nearestIn 63 = .ok (.goto (-61), 3) := by decide +kernel
theorem dX5_nearestIn_66 : decode cX5_nearestIn 66 = .ok (.iconst (-1), 1) := by decide +kernel
theorem dX5_nearestIn_67 : decode cX5_nearestIn 67 = .ok (.ireturn, 1) := by decide +kernel
theorem dX5_nearest_0 : decode cX5_nearest 0 = .ok (.aload_n 0, 1) := by decide +kernel
theorem dX5_nearest_1 : decode cX5_nearest 1 = .ok (.iload_n 1, 1) := by decide +kernel
theorem dX5_nearest_2 : decode cX5_nearest 2 = .ok (.iconst 1, 1) := by decide +kernel
theorem dX5_nearest_3 : decode cX5_nearest 3 = .ok (.invokevirtual 70, 3) := by decide +kernel
theorem dX5_nearest_6 : decode cX5_nearest 6 = .ok (.istore_n 2, 1) := by decide +kernel
theorem dX5_nearest_7 : decode cX5_nearest 7 = .ok (.aload_n 0, 1) := by decide +kernel
theorem dX5_nearest_8 : decode cX5_nearest 8 = .ok (.iload_n 1, 1) := by decide +kernel
theorem dX5_nearest_9 : decode cX5_nearest 9 = .ok (.iconst 0, 1) := by decide +kernel
theorem dX5_nearest_10 : decode cX5_nearest 10 = .ok (.invokevirtual 70, 3) := by decide +kernel
theorem dX5_nearest_13 : decode cX5_nearest 13 = .ok (.istore_n 3, 1) := by decide +kernel
theorem dX5_nearest_14 : decode cX5_nearest 14 = .ok (.iload_n 2, 1) := by decide +kernel
theorem dX5_nearest_15 : decode cX5_nearest 15 = .ok (.iconst (-1), 1) := by decide +kernel
theorem dX5_nearest_16 : decode cX5_nearest 16 = .ok (.if_icmp .eq 8, 3) := by decide +kernel
theorem dX5_nearest_19 : decode cX5_nearest 19 = .ok (.iload_n 3, 1) := by decide +kernel
theorem dX5_nearest_20 : decode cX5_nearest 20 = .ok (.iconst (-1), 1) := by decide +kernel
theorem dX5_nearest_21 : decode cX5_nearest 21 = .ok (.if_icmp .ne 14, 3) := by decide +kernel
theorem dX5_nearest_24 : decode cX5_nearest 24 = .ok (.iload_n 2, 1) := by decide +kernel
theorem dX5_nearest_25 : decode cX5_nearest 25 = .ok (.iconst (-1), 1) := by decide +kernel
theorem dX5_nearest_26 : decode cX5_nearest 26 = .ok (.if_icmp .ne 7, 3) := by decide +kernel
theorem dX5_nearest_29 : decode cX5_nearest 29 = .ok (.iload_n 3, 1) := by decide +kernel
theorem dX5_nearest_30 : decode cX5_nearest 30 = .ok (.goto 4, 3) := by decide +kernel
theorem dX5_nearest_33 : decode cX5_nearest 33 = .ok (.iload_n 2, 1) := by decide +kernel
theorem dX5_nearest_34 : decode cX5_nearest 34 = .ok (.ireturn, 1) := by decide +kernel
theorem dX5_nearest_35 : decode cX5_nearest 35 = .ok (.iload_n 2, 1) := by decide +kernel
theorem dX5_nearest_36 : decode cX5_nearest 36 = .ok (.aload_n 0, 1) := by decide +kernel
theorem dX5_nearest_37 : decode cX5_nearest 37 = .ok (.getfield 7, 3) := by decide +kernel
theorem dX5_nearest_40 : decode cX5_nearest 40 = .ok (.iconst 4, 1) := by decide +kernel
theorem dX5_nearest_41 : decode cX5_nearest 41 = .ok (.iaload, 1) := by decide +kernel
theorem dX5_nearest_42 : decode cX5_nearest 42 = .ok (.isub, 1) := by decide +kernel
theorem dX5_nearest_43 : decode cX5_nearest 43 = .ok (.aload_n 0, 1) := by decide +kernel
theorem dX5_nearest_44 : decode cX5_nearest 44 = .ok (.getfield 7, 3) := by decide +kernel
theorem dX5_nearest_47 : decode cX5_nearest 47 = .ok (.iconst 4, 1) := by decide +kernel
theorem dX5_nearest_48 : decode cX5_nearest 48 = .ok (.iaload, 1) := by decide +kernel
theorem dX5_nearest_49 : decode cX5_nearest 49 = .ok (.iload_n 3, 1) := by decide +kernel
theorem dX5_nearest_50 : decode cX5_nearest 50 = .ok (.isub, 1) := by decide +kernel
theorem dX5_nearest_51 : decode cX5_nearest 51 = .ok (.if_icmp .ge 7, 3) := by decide +kernel
theorem dX5_nearest_54 : decode cX5_nearest 54 = .ok (.iload_n 2, 1) := by decide +kernel
theorem dX5_nearest_55 : decode cX5_nearest 55 = .ok (.goto 4, 3) := by decide +kernel
theorem dX5_nearest_58 : decode cX5_nearest 58 = .ok (.iload_n 3, 1) := by decide +kernel
theorem dX5_nearest_59 : decode cX5_nearest 59 = .ok (.ireturn, 1) := by decide +kernel
theorem dX5_inOrder_0 : decode cX5_inOrder 0 = .ok (.iconst 0, 1) := by decide +kernel
theorem dX5_inOrder_1 : decode cX5_inOrder 1 = .ok (.istore_n 1, 1) := by decide +kernel
theorem dX5_inOrder_2 : decode cX5_inOrder 2 = .ok (.iload_n 1, 1) := by decide +kernel
theorem dX5_inOrder_3 : decode cX5_inOrder 3 = .ok (.aload_n 0, 1) := by decide +kernel
theorem dX5_inOrder_4 : decode cX5_inOrder 4 = .ok (.getfield 7, 3) := by decide +kernel
theorem dX5_inOrder_7 : decode cX5_inOrder 7 = .ok (.bipush 10, 2) := by decide +kernel
theorem dX5_inOrder_9 : decode cX5_inOrder 9 = .ok (.iaload, 1) := by decide +kernel
theorem dX5_inOrder_10 : decode cX5_inOrder 10 = .ok (.if_icmp .ge 24, 3) := by decide +kernel
theorem dX5_inOrder_13 : decode cX5_inOrder 13 = .ok (.aload_n 0, 1) := by decide +kernel
theorem dX5_inOrder_14 : decode cX5_inOrder 14 = .ok (.iload_n 1, 1) := by decide +kernel
theorem dX5_inOrder_15 : decode cX5_inOrder 15 = .ok (.invokevirtual 43, 3) := by decide +kernel
theorem dX5_inOrder_18 : decode cX5_inOrder 18 = .ok (.iconst 2, 1) := by decide +kernel
theorem dX5_inOrder_19 : decode cX5_inOrder 19 = .ok (.if_icmp .ne 9, 3) := by decide +kernel
theorem dX5_inOrder_22 : decode cX5_inOrder 22 = .ok (.aload_n 0, 1) := by decide +kernel
theorem dX5_inOrder_23 : decode cX5_inOrder 23 = .ok (.iload_n 1, 1) := by decide +kernel
theorem dX5_inOrder_24 : decode cX5_inOrder 24 = .ok (.invokevirtual 60, 3) := by decide +kernel
theorem dX5_inOrder_27 : decode cX5_inOrder 27 = .ok (.ireturn, 1) := by decide +kernel
theorem dX5_inOrder_28 : decode cX5_inOrder 28 = .ok (.iinc 1 1, 3) := by decide +kernel
theorem dX5_inOrder_31 : decode cX5_inOrder 31 = .ok (.goto (-29), 3) := by decide +kernel
theorem dX5_inOrder_34 : decode cX5_inOrder 34 = .ok (.aload_n 0, 1) := by decide +kernel
theorem dX5_inOrder_35 : decode cX5_inOrder 35 = .ok (.iconst (-1), 1) := by decide +kernel
theorem dX5_inOrder_36 : decode cX5_inOrder 36 = .ok (.invokevirtual 74, 3) := by decide +kernel
theorem dX5_inOrder_39 : decode cX5_inOrder 39 = .ok (.istore_n 1, 1) := by decide +kernel
theorem dX5_inOrder_40 : decode cX5_inOrder 40 = .ok (.iload_n 1, 1) := by decide +kernel
theorem dX5_inOrder_41 : decode cX5_inOrder 41 = .ok (.iconst (-1), 1) := by decide +kernel
theorem dX5_inOrder_42 : decode cX5_inOrder 42 = .ok (.if_icmp .ne 7, 3) := by decide +kernel
theorem dX5_inOrder_45 : decode cX5_inOrder 45 = .ok (.iconst (-1), 1) := by decide +kernel
theorem dX5_inOrder_46 : decode cX5_inOrder 46 = .ok (.goto 8, 3) := by decide +kernel
theorem dX5_inOrder_49 : decode cX5_inOrder 49 = .ok (.aload_n 0, 1) := by decide +kernel
theorem dX5_inOrder_50 : decode cX5_inOrder 50 = .ok (.iload_n 1, 1) := by decide +kernel
theorem dX5_inOrder_51 : decode cX5_inOrder 51 = .ok (.invokevirtual 49, 3) := by decide +kernel
theorem dX5_inOrder_54 : decode cX5_inOrder 54 = .ok (.ireturn, 1) := by decide +kernel
theorem dX5_reverses_0 : decode cX5_reverses 0 = .ok (.aload_n 0, 1) := by decide +kernel
theorem dX5_reverses_1 : decode cX5_reverses 1 = .ok (.iload_n 1, 1) := by decide +kernel
theorem dX5_reverses_2 : decode cX5_reverses 2 = .ok (.aload_n 0, 1) := by decide +kernel
theorem dX5_reverses_3 : decode cX5_reverses 3 = .ok (.getfield 7, 3) := by decide +kernel
theorem dX5_reverses_6 : decode cX5_reverses 6 = .ok (.iconst 5, 1) := by decide +kernel
theorem dX5_reverses_7 : decode cX5_reverses 7 = .ok (.iaload, 1) := by decide +kernel
theorem dX5_reverses_8 : decode cX5_reverses 8 = .ok (.iconst 1, 1) := by decide +kernel
theorem dX5_reverses_9 : decode cX5_reverses 9 = .ok (.if_icmp .ne 7, 3) := by decide +kernel
theorem dX5_reverses_12 : decode cX5_reverses 12 = .ok (.iconst 1, 1) := by decide +kernel
theorem dX5_reverses_13 : decode cX5_reverses 13 = .ok (.goto 4, 3) := by decide +kernel
theorem dX5_reverses_16 : decode cX5_reverses 16 = .ok (.iconst 0, 1) := by decide +kernel
theorem dX5_reverses_17 : decode cX5_reverses 17 = .ok (.invokevirtual 70, 3) := by decide +kernel
theorem dX5_reverses_20 : decode cX5_reverses 20 = .ok (.iconst (-1), 1) := by decide +kernel
theorem dX5_reverses_21 : decode cX5_reverses 21 = .ok (.if_icmp .ne 7, 3) := by decide +kernel
theorem dX5_reverses_24 : decode cX5_reverses 24 = .ok (.iconst 1, 1) := by decide +kernel
theorem dX5_reverses_25 : decode cX5_reverses 25 = .ok (.goto 4, 3) := by decide +kernel
theorem dX5_reverses_28 : decode cX5_reverses 28 = .ok (.iconst 0, 1) := by decide +kernel
theorem dX5_reverses_29 : decode cX5_reverses 29 = .ok (.ireturn, 1) := by decide +kernel
theorem dX5_target_0 : decode cX5_target 0 = .ok (.aload_n 0, 1) := by decide +kernel
theorem dX5_target_1 : decode cX5_target 1 = .ok (.invokevirtual 77, 3) := by decide +kernel
theorem dX5_target_4 : decode cX5_target 4 = .ok (.istore_n 2, 1) := by decide +kernel
theorem dX5_target_5 : decode cX5_target 5 = .ok (.iload_n 2, 1) := by decide +kernel
theorem dX5_target_6 : decode cX5_target 6 = .ok (.ifCond .ne 5, 3) := by decide +kernel
theorem dX5_target_9 : decode cX5_target 9 = .ok (.iconst (-1), 1) := by decide +kernel
theorem dX5_target_10 : decode cX5_target 10 = .ok (.ireturn, 1) := by decide +kernel
theorem dX5_target_11 : decode cX5_target 11 = .ok (.iload_n 2, 1) := by decide +kernel
theorem dX5_target_12 : decode cX5_target 12 = .ok (.aload_n 0, 1) := by decide +kernel
theorem dX5_target_13 : decode cX5_target 13 = .ok (.getfield 7, 3) := by decide +kernel
theorem dX5_target_16 : decode cX5_target 16 = .ok (.iconst 4, 1) := by decide +kernel
theorem dX5_target_17 : decode cX5_target 17 = .ok (.iaload, 1) := by decide +kernel
theorem dX5_target_18 : decode cX5_target 18 = .ok (.invokestatic 67, 3) := by decide +kernel
theorem dX5_target_21 : decode cX5_target 21 = .ok (.ifCond .eq 10, 3) := by decide +kernel
theorem dX5_target_24 : decode cX5_target 24 = .ok (.aload_n 0, 1) := by decide +kernel
theorem dX5_target_25 : decode cX5_target 25 = .ok (.getfield 7, 3) := by decide +kernel
theorem dX5_target_28 : decode cX5_target 28 = .ok (.iconst 4, 1) := by decide +kernel
theorem dX5_target_29 : decode cX5_target 29 = .ok (.iaload, 1) := by decide +kernel
theorem dX5_target_30 : decode cX5_target 30 = .ok (.ireturn, 1) := by decide +kernel
theorem dX5_target_31 : decode cX5_target 31 = .ok (.iload_n 1, 1) := by decide +kernel
theorem dX5_target_32 : decode cX5_target 32 = .ok (.ifCond .ne 8, 3) := by decide +kernel
theorem dX5_target_35 : decode cX5_target 35 = .ok (.aload_n 0, 1) := by decide +kernel
theorem dX5_target_36 : decode cX5_target 36 = .ok (.invokevirtual 81, 3) := by decide +kernel
theorem dX5_target_39 : decode cX5_target 39 = .ok (.ireturn, 1) := by decide +kernel
theorem dX5_target_40 : decode cX5_target 40 = .ok (.iload_n 1, 1) := by decide +kernel
theorem dX5_target_41 : decode cX5_target 41 = .ok (.iconst 1, 1) := by decide +kernel
theorem dX5_target_42 : decode cX5_target 42 = .ok (.if_icmp .ne 11, 3) := by decide +kernel
theorem dX5_target_45 : decode cX5_target 45 = .ok (.aload_n 0, 1) := by decide +kernel
theorem dX5_target_46 : decode cX5_target 46 = .ok (.iload_n 2, 1) := by decide +kernel
theorem dX5_target_47 : decode cX5_target 47 = .ok (.invokevirtual 84, 3) := by decide +kernel
theorem dX5_target_50 : decode cX5_target 50 = .ok (.goto 36, 3) := by decide +kernel
theorem dX5_target_53 : decode cX5_target 53 = .ok (.aload_n 0, 1) := by decide +kernel
theorem dX5_target_54 : decode cX5_target 54 = .ok (.iload_n 2, 1) := by decide +kernel
theorem dX5_target_55 : decode cX5_target 55 = .ok (.aload_n 0, 1) := by decide +kernel
theorem dX5_target_56 : decode cX5_target 56 = .ok (.getfield 7, 3) := by decide +kernel
theorem dX5_target_59 : decode cX5_target 59 = .ok (.iconst 5, 1) := by decide +kernel
theorem dX5_target_60 : decode cX5_target 60 = .ok (.iaload, 1) := by decide +kernel
theorem dX5_target_61 : decode cX5_target 61 = .ok (.iconst 1, 1) := by decide +kernel
theorem dX5_target_62 : decode cX5_target 62 = .ok (.if_icmp .ne 7, 3) := by decide +kernel
theorem dX5_target_65 : decode cX5_target 65 = .ok (.iconst 1, 1) := by decide +kernel
theorem dX5_target_66 : decode cX5_target 66 = .ok (.goto 4, 3) := by decide +kernel
theorem dX5_target_69 : decode cX5_target 69 = .ok (.iconst 0, 1) := by decide +kernel
theorem dX5_target_70 : decode cX5_target 70 = .ok (.aload_n 0, 1) := by decide +kernel
theorem dX5_target_71 : decode cX5_target 71 = .ok (.iload_n 2, 1) := by decide +kernel
theorem dX5_target_72 : decode cX5_target 72 = .ok (.invokevirtual 87, 3) := by decide +kernel
theorem dX5_target_75 : decode cX5_target 75 = .ok (.if_icmp .eq 7, 3) := by decide +kernel
theorem dX5_target_78 : decode cX5_target 78 = .ok (.iconst 1, 1) := by decide +kernel
theorem dX5_target_79 : decode cX5_target 79 = .ok (.goto 4, 3) := by decide +kernel
theorem dX5_target_82 : decode cX5_target 82 = .ok (.iconst 0, 1) := by decide +kernel
theorem dX5_target_83 : decode cX5_target 83 = .ok (.invokevirtual 70, 3) := by decide +kernel
theorem dX5_target_86 : decode cX5_target 86 = .ok (.ireturn, 1) := by decide +kernel
theorem dX5_opens_0 : decode cX5_opens 0 = .ok (.iconst 0, 1) := by decide +kernel
theorem dX5_opens_1 : decode cX5_opens 1 = .ok (.istore_n 1, 1) := by decide +kernel
theorem dX5_opens_2 : decode cX5_opens 2 = .ok (.iload_n 1, 1) := by decide +kernel
theorem dX5_opens_3 : decode cX5_opens 3 = .ok (.aload_n 0, 1) := by decide +kernel
theorem dX5_opens_4 : decode cX5_opens 4 = .ok (.getfield 7, 3) := by decide +kernel
theorem dX5_opens_7 : decode cX5_opens 7 = .ok (.bipush 10, 2) := by decide +kernel
theorem dX5_opens_9 : decode cX5_opens 9 = .ok (.iaload, 1) := by decide +kernel
theorem dX5_opens_10 : decode cX5_opens 10 = .ok (.if_icmp .ge 49, 3) := by decide +kernel
theorem dX5_opens_13 : decode cX5_opens 13 = .ok (.aload_n 0, 1) := by decide +kernel
theorem dX5_opens_14 : decode cX5_opens 14 = .ok (.iload_n 1, 1) := by decide +kernel
theorem dX5_opens_15 : decode cX5_opens 15 = .ok (.invokevirtual 43, 3) := by decide +kernel
theorem dX5_opens_18 : decode cX5_opens 18 = .ok (.iconst 2, 1) := by decide +kernel
theorem dX5_opens_19 : decode cX5_opens 19 = .ok (.if_icmp .ne 34, 3) := by decide +kernel
theorem dX5_opens_22 : decode cX5_opens 22 = .ok (.aload_n 0, 1) := by decide +kernel
theorem dX5_opens_23 : decode cX5_opens 23 = .ok (.iload_n 1, 1) := by decide +kernel
theorem dX5_opens_24 : decode cX5_opens 24 = .ok (.invokevirtual 60, 3) := by decide +kernel
theorem dX5_opens_27 : decode cX5_opens 27 = .ok (.aload_n 0, 1) := by decide +kernel
theorem dX5_opens_28 : decode cX5_opens 28 = .ok (.getfield 7, 3) := by decide +kernel
theorem dX5_opens_31 : decode cX5_opens 31 = .ok (.iconst 4, 1) := by decide +kernel
theorem dX5_opens_32 : decode cX5_opens 32 = .ok (.iaload, 1) := by decide +kernel
theorem dX5_opens_33 : decode cX5_opens 33 = .ok (.if_icmp .ne 20, 3) := by decide +kernel
theorem dX5_opens_36 : decode cX5_opens 36 = .ok (.aload_n 0, 1) := by decide +kernel
theorem dX5_opens_37 : decode cX5_opens 37 = .ok (.getfield 7, 3) := by decide +kernel
theorem dX5_opens_40 : decode cX5_opens 40 = .ok (.iload_n 1, 1) := by decide +kernel
theorem dX5_opens_41 : decode cX5_opens 41 = .ok (.invokestatic 30, 3) := by decide +kernel
theorem dX5_opens_44 : decode cX5_opens 44 = .ok (.iconst 4, 1) := by decide +kernel
theorem dX5_opens_45 : decode cX5_opens 45 = .ok (.iadd, 1) := by decide +kernel
theorem dX5_opens_46 : decode cX5_opens 46 = .ok (.aload_n 0, 1) := by decide +kernel
theorem dX5_opens_47 : decode cX5_opens 47 = .ok (.getfield 7, 3) := by decide +kernel
theorem dX5_opens_50 : decode cX5_opens 50 = .ok (.iconst 3, 1) := by decide +kernel
theorem dX5_opens_51 : decode cX5_opens 51 = .ok (.iaload, 1) := by decide +kernel
theorem dX5_opens_52 : decode cX5_opens 52 = .ok (.iastore, 1) := by decide +kernel
theorem dX5_opens_53 : decode cX5_opens 53 = .ok (.iinc 1 1, 3) := by decide +kernel
theorem dX5_opens_56 : decode cX5_opens 56 = .ok (.goto (-54), 3) := by decide +kernel
theorem dX5_opens_59 : decode cX5_opens 59 = .ok (.aload_n 0, 1) := by decide +kernel
theorem dX5_opens_60 : decode cX5_opens 60 = .ok (.aload_n 0, 1) := by decide +kernel
theorem dX5_opens_61 : decode cX5_opens 61 = .ok (.getfield 7, 3) := by decide +kernel
theorem dX5_opens_64 : decode cX5_opens 64 = .ok (.iconst 4, 1) := by decide +kernel
theorem dX5_opens_65 : decode cX5_opens 65 = .ok (.iaload, 1) := by decide +kernel
theorem dX5_opens_66 : decode cX5_opens 66 = .ok (.invokevirtual 74, 3) := by decide +kernel
theorem dX5_opens_69 : decode cX5_opens 69 = .ok (.istore_n 1, 1) := by decide +kernel
theorem dX5_opens_70 : decode cX5_opens 70 = .ok (.iload_n 1, 1) := by decide +kernel
theorem dX5_opens_71 : decode cX5_opens 71 = .ok (.iconst (-1), 1) := by decide +kernel
theorem dX5_opens_72 : decode cX5_opens 72 = .ok (.if_icmp .eq 41, 3) := by decide +kernel
theorem dX5_opens_75 : decode cX5_opens 75 = .ok (.aload_n 0, 1) := by decide +kernel
theorem dX5_opens_76 : decode cX5_opens 76 = .ok (.invokevirtual 56, 3) := by decide +kernel
theorem dX5_opens_79 : decode cX5_opens 79 = .ok (.ifCond .ne 34, 3) := by decide +kernel
theorem dX5_opens_82 : decode cX5_opens 82 = .ok (.aload_n 0, 1) := by decide +kernel
theorem dX5_opens_83 : decode cX5_opens 83 = .ok (.getfield 7, 3) := by decide +kernel
theorem dX5_opens_86 : decode cX5_opens 86 = .ok (.iload_n 1, 1) := by decide +kernel
theorem dX5_opens_87 : decode cX5_opens 87 = .ok (.invokestatic 30, 3) := by decide +kernel
theorem dX5_opens_90 : decode cX5_opens 90 = .ok (.iconst 3, 1) := by decide +kernel
theorem dX5_opens_91 : decode cX5_opens 91 = .ok (.iadd, 1) := by decide +kernel
theorem dX5_opens_92 : decode cX5_opens 92 = .ok (.aload_n 0, 1) := by decide +kernel
theorem dX5_opens_93 : decode cX5_opens 93 = .ok (.getfield 7, 3) := by decide +kernel
theorem dX5_opens_96 : decode cX5_opens 96 = .ok (.iconst 3, 1) := by decide +kernel
theorem dX5_opens_97 : decode cX5_opens 97 = .ok (.iaload, 1) := by decide +kernel
theorem dX5_opens_98 : decode cX5_opens 98 = .ok (.iastore, 1) := by decide +kernel
theorem dX5_opens_99 : decode cX5_opens 99 = .ok (.aload_n 0, 1) := by decide +kernel
theorem dX5_opens_100 : decode cX5_opens 100 = .ok (.aload_n 0, 1) := by decide +kernel
theorem dX5_opens_101 : decode cX5_opens 101 = .ok (.getfield 7, 3) := by decide +kernel
theorem dX5_opens_104 : decode cX5_opens 104 = .ok (.iconst 4, 1) := by decide +kernel
theorem dX5_opens_105 : decode cX5_opens 105 = .ok (.iaload, 1) := by decide +kernel
theorem dX5_opens_106 : decode cX5_opens 106 = .ok (.invokevirtual 74, 3) := by decide +kernel
theorem dX5_opens_109 : decode cX5_opens 109 = .ok (.istore_n 1, 1) := by decide +kernel
theorem dX5_opens_110 : decode cX5_opens 110 = .ok (.goto (-40), 3) := by decide +kernel
theorem dX5_opens_113 : decode cX5_opens 113 = .ok (.aload_n 0, 1) := by decide +kernel
theorem dX5_opens_114 : decode cX5_opens 114 = .ok (.getfield 7, 3) := by decide +kernel
theorem dX5_opens_117 : decode cX5_opens 117 = .ok (.bipush 7, 2) := by decide +kernel
theorem dX5_opens_119 : decode cX5_opens 119 = .ok (.dup2, 1) := by decide +kernel
theorem dX5_opens_120 : decode cX5_opens 120 = .ok (.iaload, 1) := by decide +kernel
theorem dX5_opens_121 : decode cX5_opens 121 = .ok (.iconst 1, 1) := by decide +kernel
theorem dX5_opens_122 : decode cX5_opens 122 = .ok (.iadd, 1) := by decide +kernel
theorem dX5_opens_123 : decode cX5_opens 123 = .ok (.iastore, 1) := by decide +kernel
theorem dX5_opens_124 : decode cX5_opens 124 = .ok (.return_, 1) := by decide +kernel
theorem dX5_moves_0 : decode cX5_moves 0 = .ok (.aload_n 0, 1) := by decide +kernel
theorem dX5_moves_1 : decode cX5_moves 1 = .ok (.aload_n 0, 1) := by decide +kernel
theorem dX5_moves_2 : decode cX5_moves 2 = .ok (.getfield 7, 3) := by decide +kernel
theorem dX5_moves_5 : decode cX5_moves 5 = .ok (.iconst 2, 1) := by decide +kernel
theorem dX5_moves_6 : decode cX5_moves 6 = .ok (.iaload, 1) := by decide +kernel
theorem dX5_moves_7 : decode cX5_moves 7 = .ok (.invokevirtual 91, 3) := by decide +kernel
theorem dX5_moves_10 : decode cX5_moves 10 = .ok (.istore_n 2, 1) := by decide +kernel
theorem dX5_moves_11 : decode cX5_moves 11 = .ok (.aload_n 0, 1) := by decide +kernel
theorem dX5_moves_12 : decode cX5_moves 12 = .ok (.getfield 7, 3) := by decide +kernel
theorem dX5_moves_15 : decode cX5_moves 15 = .ok (.iconst 2, 1) := by decide +kernel
theorem dX5_moves_16 : decode cX5_moves 16 = .ok (.iaload, 1) := by decide +kernel
theorem dX5_moves_17 : decode cX5_moves 17 = .ok (.iconst 2, 1) := by decide +kernel
theorem dX5_moves_18 : decode cX5_moves 18 = .ok (.if_icmp .ne 36, 3) := by decide +kernel
theorem dX5_moves_21 : decode cX5_moves 21 = .ok (.aload_n 0, 1) := by decide +kernel
theorem dX5_moves_22 : decode cX5_moves 22 = .ok (.iload_n 1, 1) := by decide +kernel
theorem dX5_moves_23 : decode cX5_moves 23 = .ok (.invokevirtual 87, 3) := by decide +kernel
theorem dX5_moves_26 : decode cX5_moves 26 = .ok (.ifCond .eq 28, 3) := by decide +kernel
theorem dX5_moves_29 : decode cX5_moves 29 = .ok (.aload_n 0, 1) := by decide +kernel
theorem dX5_moves_30 : decode cX5_moves 30 = .ok (.getfield 7, 3) := by decide +kernel
theorem dX5_moves_33 : decode cX5_moves 33 = .ok (.iconst 5, 1) := by decide +kernel
theorem dX5_moves_34 : decode cX5_moves 34 = .ok (.iconst 1, 1) := by decide +kernel
theorem dX5_moves_35 : decode cX5_moves 35 = .ok (.aload_n 0, 1) := by decide +kernel
theorem dX5_moves_36 : decode cX5_moves 36 = .ok (.getfield 7, 3) := by decide +kernel
theorem dX5_moves_39 : decode cX5_moves 39 = .ok (.iconst 5, 1) := by decide +kernel
theorem dX5_moves_40 : decode cX5_moves 40 = .ok (.iaload, 1) := by decide +kernel
theorem dX5_moves_41 : decode cX5_moves 41 = .ok (.isub, 1) := by decide +kernel
theorem dX5_moves_42 : decode cX5_moves 42 = .ok (.iastore, 1) := by decide +kernel
theorem dX5_moves_43 : decode cX5_moves 43 = .ok (.aload_n 0, 1) := by decide +kernel
theorem dX5_moves_44 : decode cX5_moves 44 = .ok (.getfield 7, 3) := by decide +kernel
theorem dX5_moves_47 : decode cX5_moves 47 = .ok (.bipush 9, 2) := by decide +kernel
theorem dX5_moves_49 : decode cX5_moves 49 = .ok (.dup2, 1) := by decide +kernel
theorem dX5_moves_50 : decode cX5_moves 50 = .ok (.iaload, 1) := by decide +kernel
theorem dX5_moves_51 : decode cX5_moves 51 = .ok (.iconst 1, 1) := by decide +kernel
theorem dX5_moves_52 : decode cX5_moves 52 = .ok (.iadd, 1) := by decide +kernel
theorem dX5_moves_53 : decode cX5_moves 53 = .ok (.iastore, 1) := by decide +kernel
theorem dX5_moves_54 : decode cX5_moves 54 = .ok (.aload_n 0, 1) := by decide +kernel
theorem dX5_moves_55 : decode cX5_moves 55 = .ok (.getfield 7, 3) := by decide +kernel
theorem dX5_moves_58 : decode cX5_moves 58 = .ok (.iconst 4, 1) := by decide +kernel
theorem dX5_moves_59 : decode cX5_moves 59 = .ok (.dup2, 1) := by decide +kernel
theorem dX5_moves_60 : decode cX5_moves 60 = .ok (.iaload, 1) := by decide +kernel
theorem dX5_moves_61 : decode cX5_moves 61 = .ok (.iload_n 2, 1) := by decide +kernel
theorem dX5_moves_62 : decode cX5_moves 62 = .ok (.aload_n 0, 1) := by decide +kernel
theorem dX5_moves_63 : decode cX5_moves 63 = .ok (.getfield 7, 3) := by decide +kernel
theorem dX5_moves_66 : decode cX5_moves 66 = .ok (.iconst 4, 1) := by decide +kernel
theorem dX5_moves_67 : decode cX5_moves 67 = .ok (.iaload, 1) := by decide +kernel
theorem dX5_moves_68 : decode cX5_moves 68 = .ok (.if_icmp .le 7, 3) := by decide +kernel
theorem dX5_moves_71 : decode cX5_moves 71 = .ok (.iconst 1, 1) := by decide +kernel
theorem dX5_moves_72 : decode cX5_moves 72 = .ok (.goto 4, 3) := by decide +kernel
theorem dX5_moves_75 : decode cX5_moves 75 = .ok (.iconst (-1), 1) := by decide +kernel
theorem dX5_moves_76 : decode cX5_moves 76 = .ok (.iadd, 1) := by decide +kernel
theorem dX5_moves_77 : decode cX5_moves 77 = .ok (.iastore, 1) := by decide +kernel
theorem dX5_moves_78 : decode cX5_moves 78 = .ok (.aload_n 0, 1) := by decide +kernel
theorem dX5_moves_79 : decode cX5_moves 79 = .ok (.getfield 7, 3) := by decide +kernel
theorem dX5_moves_82 : decode cX5_moves 82 = .ok (.bipush 6, 2) := by decide +kernel
theorem dX5_moves_84 : decode cX5_moves 84 = .ok (.dup2, 1) := by decide +kernel
theorem dX5_moves_85 : decode cX5_moves 85 = .ok (.iaload, 1) := by decide +kernel
theorem dX5_moves_86 : decode cX5_moves 86 = .ok (.iconst 1, 1) := by decide +kernel
theorem dX5_moves_87 : decode cX5_moves 87 = .ok (.iadd, 1) := by decide +kernel
theorem dX5_moves_88 : decode cX5_moves 88 = .ok (.iastore, 1) := by decide +kernel
theorem dX5_moves_89 : decode cX5_moves 89 = .ok (.return_, 1) := by decide +kernel
theorem dX5_ticks_0 : decode cX5_ticks 0 = .ok (.aload_n 0, 1) := by decide +kernel
theorem dX5_ticks_1 : decode cX5_ticks 1 = .ok (.invokevirtual 77, 3) := by decide +kernel
theorem dX5_ticks_4 : decode cX5_ticks 4 = .ok (.istore_n 1, 1) := by decide +kernel
theorem dX5_ticks_5 : decode cX5_ticks 5 = .ok (.iload_n 1, 1) := by decide +kernel
theorem dX5_ticks_6 : decode cX5_ticks 6 = .ok (.aload_n 0, 1) := by decide +kernel
theorem dX5_ticks_7 : decode cX5_ticks 7 = .ok (.getfield 7, 3) := by decide +kernel
theorem dX5_ticks_10 : decode cX5_ticks 10 = .ok (.iconst 4, 1) := by decide +kernel
theorem dX5_ticks_11 : decode cX5_ticks 11 = .ok (.iaload, 1) := by decide +kernel
theorem dX5_ticks_12 : decode cX5_ticks 12 = .ok (.invokestatic 67, 3) := by decide +kernel
theorem dX5_ticks_15 : decode cX5_ticks 15 = .ok (.ifCond .eq 10, 3) := by decide +kernel
theorem dX5_ticks_18 : decode cX5_ticks 18 = .ok (.aload_n 0, 1) := by decide +kernel
theorem dX5_ticks_19 : decode cX5_ticks 19 = .ok (.invokevirtual 94, 3) := by decide +kernel
theorem dX5_ticks_22 : decode cX5_ticks 22 = .ok (.goto 26, 3) := by decide +kernel
theorem dX5_ticks_25 : decode cX5_ticks 25 = .ok (.iload_n 1, 1) := by decide +kernel
theorem dX5_ticks_26 : decode cX5_ticks 26 = .ok (.ifCond .eq 11, 3) := by decide +kernel
theorem dX5_ticks_29 : decode cX5_ticks 29 = .ok (.aload_n 0, 1) := by decide +kernel
theorem dX5_ticks_30 : decode cX5_ticks 30 = .ok (.iload_n 1, 1) := by decide +kernel
theorem dX5_ticks_31 : decode cX5_ticks 31 = .ok (.invokevirtual 97, 3) := by decide +kernel
theorem dX5_ticks_34 : decode cX5_ticks 34 = .ok (.goto 14, 3) := by decide +kernel
theorem dX5_ticks_37 : decode cX5_ticks 37 = .ok (.aload_n 0, 1) := by decide +kernel
theorem dX5_ticks_38 : decode cX5_ticks 38 = .ok (.getfield 7, 3) := by decide +kernel
theorem dX5_ticks_41 : decode cX5_ticks 41 = .ok (.bipush 8, 2) := by decide +kernel
theorem dX5_ticks_43 : decode cX5_ticks 43 = .ok (.dup2, 1) := by decide +kernel
theorem dX5_ticks_44 : decode cX5_ticks 44 = .ok (.iaload, 1) := by decide +kernel
theorem dX5_ticks_45 : decode cX5_ticks 45 = .ok (.iconst 1, 1) := by decide +kernel
theorem dX5_ticks_46 : decode cX5_ticks 46 = .ok (.iadd, 1) := by decide +kernel
theorem dX5_ticks_47 : decode cX5_ticks 47 = .ok (.iastore, 1) := by decide +kernel
theorem dX5_ticks_48 : decode cX5_ticks 48 = .ok (.aload_n 0, 1) := by decide +kernel
theorem dX5_ticks_49 : decode cX5_ticks 49 = .ok (.getfield 7, 3) := by decide +kernel
theorem dX5_ticks_52 : decode cX5_ticks 52 = .ok (.iconst 3, 1) := by decide +kernel
theorem dX5_ticks_53 : decode cX5_ticks 53 = .ok (.dup2, 1) := by decide +kernel
theorem dX5_ticks_54 : decode cX5_ticks 54 = .ok (.iaload, 1) := by decide +kernel
theorem dX5_ticks_55 : decode cX5_ticks 55 = .ok (.iconst 1, 1) := by decide +kernel
theorem dX5_ticks_56 : decode cX5_ticks 56 = .ok (.iadd, 1) := by decide +kernel
theorem dX5_ticks_57 : decode cX5_ticks 57 = .ok (.iastore, 1) := by decide +kernel
theorem dX5_ticks_58 : decode cX5_ticks 58 = .ok (.return_, 1) := by decide +kernel
theorem dX5_finishes_0 : decode cX5_finishes 0 = .ok (.iconst 0, 1) := by decide +kernel
theorem dX5_finishes_1 : decode cX5_finishes 1 = .ok (.istore_n 2, 1) := by decide +kernel
theorem dX5_finishes_2 : decode cX5_finishes 2 = .ok (.aload_n 0, 1) := by decide +kernel
theorem dX5_finishes_3 : decode cX5_finishes 3 = .ok (.invokevirtual 101, 3) := by decide +kernel
theorem dX5_finishes_6 : decode cX5_finishes 6 = .ok (.ifCond .ne 23, 3) := by decide +kernel
theorem dX5_finishes_9 : decode cX5_finishes 9 = .ok (.aload_n 0, 1) := by decide +kernel
theorem dX5_finishes_10 : decode cX5_finishes 10 = .ok (.getfield 7, 3) := by decide +kernel
theorem dX5_finishes_13 : decode cX5_finishes 13 = .ok (.iconst 3, 1) := by decide +kernel
theorem dX5_finishes_14 : decode cX5_finishes 14 = .ok (.iaload, 1) := by decide +kernel
theorem dX5_finishes_15 : decode cX5_finishes 15 = .ok (.iload_n 1, 1) := by decide +kernel
theorem dX5_finishes_16 : decode cX5_finishes 16 = .ok (.if_icmp .ge 13, 3) := by decide +kernel
theorem dX5_finishes_19 : decode cX5_finishes 19 = .ok (.aload_n 0, 1) := by decide +kernel
theorem dX5_finishes_20 : decode cX5_finishes 20 = .ok (.invokevirtual 104, 3) := by decide +kernel
theorem dX5_finishes_23 : decode cX5_finishes 23 = .ok (.iinc 2 1, 3) := by decide +kernel
theorem dX5_finishes_26 : decode cX5_finishes 26 = .ok (.goto (-24), 3) := by decide +kernel
theorem dX5_finishes_29 : decode cX5_finishes 29 = .ok (.iload_n 2, 1) := by decide +kernel
theorem dX5_finishes_30 : decode cX5_finishes 30 = .ok (.ireturn, 1) := by decide +kernel
theorem dX5_forecasts_0 : decode cX5_forecasts 0 = .ok (.aload_n 0, 1) := by decide +kernel
theorem dX5_forecasts_1 : decode cX5_forecasts 1 = .ok (.ldc 107, 2) := by decide +kernel
theorem dX5_forecasts_3 : decode cX5_forecasts 3 = .ok (.invokevirtual 108, 3) := by decide +kernel
theorem dX5_forecasts_6 : decode cX5_forecasts 6 = .ok (.ireturn, 1) := by decide +kernel
theorem dX5_keeps_0 : decode cX5_keeps 0 = .ok (.iconst 0, 1) := by decide +kernel
theorem dX5_keeps_1 : decode cX5_keeps 1 = .ok (.istore_n 2, 1) := by decide +kernel
theorem dX5_keeps_2 : decode cX5_keeps 2 = .ok (.iload_n 2, 1) := by decide +kernel
theorem dX5_keeps_3 : decode cX5_keeps 3 = .ok (.sipush 211, 3) := by decide +kernel
theorem dX5_keeps_6 : decode cX5_keeps 6 = .ok (.if_icmp .ge 27, 3) := by decide +kernel
theorem dX5_keeps_9 : decode cX5_keeps 9 = .ok (.aload_n 0, 1) := by decide +kernel
theorem dX5_keeps_10 : decode cX5_keeps 10 = .ok (.getfield 13, 3) := by decide +kernel
theorem dX5_keeps_13 : decode cX5_keeps 13 = .ok (.sipush 211, 3) := by decide +kernel
theorem dX5_keeps_16 : decode cX5_keeps 16 = .ok (.iload_n 1, 1) := by decide +kernel
theorem dX5_keeps_17 : decode cX5_keeps 17 = .ok (.imul, 1) := by decide +kernel
theorem dX5_keeps_18 : decode cX5_keeps 18 = .ok (.iload_n 2, 1) := by decide +kernel
theorem dX5_keeps_19 : decode cX5_keeps 19 = .ok (.iadd, 1) := by decide +kernel
theorem dX5_keeps_20 : decode cX5_keeps 20 = .ok (.aload_n 0, 1) := by decide +kernel
theorem dX5_keeps_21 : decode cX5_keeps 21 = .ok (.getfield 7, 3) := by decide +kernel
theorem dX5_keeps_24 : decode cX5_keeps 24 = .ok (.iload_n 2, 1) := by decide +kernel
theorem dX5_keeps_25 : decode cX5_keeps 25 = .ok (.iaload, 1) := by decide +kernel
theorem dX5_keeps_26 : decode cX5_keeps 26 = .ok (.iastore, 1) := by decide +kernel
theorem dX5_keeps_27 : decode cX5_keeps 27 = .ok (.iinc 2 1, 3) := by decide +kernel
theorem dX5_keeps_30 : decode cX5_keeps 30 = .ok (.goto (-28), 3) := by decide +kernel
theorem dX5_keeps_33 : decode cX5_keeps 33 = .ok (.return_, 1) := by decide +kernel
theorem dX5_bringsBack_0 : decode cX5_bringsBack 0 = .ok (.iconst 0, 1) := by decide +kernel
theorem dX5_bringsBack_1 : decode cX5_bringsBack 1 = .ok (.istore_n 2, 1) := by decide +kernel
theorem dX5_bringsBack_2 : decode cX5_bringsBack 2 = .ok (.iload_n 2, 1) := by decide +kernel
theorem dX5_bringsBack_3 : decode cX5_bringsBack 3 = .ok (.sipush 211, 3) := by decide +kernel
theorem dX5_bringsBack_6 : decode cX5_bringsBack 6 = .ok (.if_icmp .ge 27, 3) := by decide +kernel
theorem dX5_bringsBack_9 : decode cX5_bringsBack 9 = .ok (.aload_n 0, 1) := by decide +kernel
theorem dX5_bringsBack_10 : decode cX5_bringsBack 10 = .ok (.getfield 7, 3) := by decide +kernel
theorem dX5_bringsBack_13 : decode cX5_bringsBack 13 = .ok (.iload_n 2, 1) := by decide +kernel
theorem dX5_bringsBack_14 : decode cX5_bringsBack 14 = .ok (.aload_n 0, 1) := by decide +kernel
theorem dX5_bringsBack_15 : decode cX5_bringsBack 15 = .ok (.getfield 13, 3) := by decide +kernel
theorem dX5_bringsBack_18 : decode cX5_bringsBack 18 = .ok (.sipush 211, 3) := by decide +kernel
theorem dX5_bringsBack_21 : decode cX5_bringsBack 21 = .ok (.iload_n 1, 1) := by decide +kernel
theorem dX5_bringsBack_22 : decode cX5_bringsBack 22 = .ok (.imul, 1) := by decide +kernel
theorem dX5_bringsBack_23 : decode cX5_bringsBack 23 = .ok (.iload_n 2, 1) := by decide +kernel
theorem dX5_bringsBack_24 : decode cX5_bringsBack 24 = .ok (.iadd, 1) := by decide +kernel
theorem dX5_bringsBack_25 : decode cX5_bringsBack 25 = .ok (.iaload, 1) := by decide +kernel
theorem dX5_bringsBack_26 : decode cX5_bringsBack 26 = .ok (.iastore, 1) := by decide +kernel
theorem dX5_bringsBack_27 : decode cX5_bringsBack 27 = .ok (.iinc 2 1, 3) := by decide +kernel
theorem dX5_bringsBack_30 : decode cX5_bringsBack 30 = .ok (.goto (-28), 3) := by decide +kernel
theorem dX5_bringsBack_33 : decode cX5_bringsBack 33 = .ok (.return_, 1) := by decide +kernel
theorem dX5_records_0 : decode cX5_records 0 = .ok (.aload_n 0, 1) := by decide +kernel
theorem dX5_records_1 : decode cX5_records 1 = .ok (.getfield 111, 3) := by decide +kernel
theorem dX5_records_4 : decode cX5_records 4 = .ok (.bipush 8, 2) := by decide +kernel
theorem dX5_records_6 : decode cX5_records 6 = .ok (.if_icmp .ne 44, 3) := by decide +kernel
theorem dX5_records_9 : decode cX5_records 9 = .ok (.iconst 0, 1) := by decide +kernel
theorem dX5_records_10 : decode cX5_records 10 = .ok (.istore_n 1, 1) := by decide +kernel
theorem dX5_records_11 : decode cX5_records 11 = .ok (.iload_n 1, 1) := by decide +kernel
theorem dX5_records_12 : decode cX5_records 12 = .ok (.sipush 1477, 3) := by decide +kernel
theorem dX5_records_15 : decode cX5_records 15 = .ok (.if_icmp .ge 25, 3) := by decide +kernel
theorem dX5_records_18 : decode cX5_records 18 = .ok (.aload_n 0, 1) := by decide +kernel
theorem dX5_records_19 : decode cX5_records 19 = .ok (.getfield 13, 3) := by decide +kernel
theorem dX5_records_22 : decode cX5_records 22 = .ok (.iload_n 1, 1) := by decide +kernel
theorem dX5_records_23 : decode cX5_records 23 = .ok (.aload_n 0, 1) := by decide +kernel
theorem dX5_records_24 : decode cX5_records 24 = .ok (.getfield 13, 3) := by decide +kernel
theorem dX5_records_27 : decode cX5_records 27 = .ok (.iload_n 1, 1) := by decide +kernel
theorem dX5_records_28 : decode cX5_records 28 = .ok (.sipush 211, 3) := by decide +kernel
theorem dX5_records_31 : decode cX5_records 31 = .ok (.iadd, 1) := by decide +kernel
theorem dX5_records_32 : decode cX5_records 32 = .ok (.iaload, 1) := by decide +kernel
theorem dX5_records_33 : decode cX5_records 33 = .ok (.iastore, 1) := by decide +kernel
theorem dX5_records_34 : decode cX5_records 34 = .ok (.iinc 1 1, 3) := by decide +kernel
theorem dX5_records_37 : decode cX5_records 37 = .ok (.goto (-26), 3) := by decide +kernel
theorem dX5_records_40 : decode cX5_records 40 = .ok (.aload_n 0, 1) := by decide +kernel
theorem dX5_records_41 : decode cX5_records 41 = .ok (.dup, 1) := by decide +kernel
theorem dX5_records_42 : decode cX5_records 42 = .ok (.getfield 111, 3) := by decide +kernel
theorem dX5_records_45 : decode cX5_records 45 = .ok (.iconst 1, 1) := by decide +kernel
theorem dX5_records_46 : decode cX5_records 46 = .ok (.isub, 1) := by decide +kernel
theorem dX5_records_47 : decode cX5_records 47 = .ok (.putfield 111, 3) := by decide +kernel
theorem dX5_records_50 : decode cX5_records 50 = .ok (.aload_n 0, 1) := by decide +kernel
theorem dX5_records_51 : decode cX5_records 51 = .ok (.aload_n 0, 1) := by decide +kernel
theorem dX5_records_52 : decode cX5_records 52 = .ok (.getfield 111, 3) := by decide +kernel
theorem dX5_records_55 : decode cX5_records 55 = .ok (.invokevirtual 114, 3) := by decide +kernel
theorem dX5_records_58 : decode cX5_records 58 = .ok (.aload_n 0, 1) := by decide +kernel
theorem dX5_records_59 : decode cX5_records 59 = .ok (.dup, 1) := by decide +kernel
theorem dX5_records_60 : decode cX5_records 60 = .ok (.getfield 111, 3) := by decide +kernel
theorem dX5_records_63 : decode cX5_records 63 = .ok (.iconst 1, 1) := by decide +kernel
theorem dX5_records_64 : decode cX5_records 64 = .ok (.iadd, 1) := by decide +kernel
theorem dX5_records_65 : decode cX5_records 65 = .ok (.putfield 111, 3) := by decide +kernel
theorem dX5_records_68 : decode cX5_records 68 = .ok (.return_, 1) := by decide +kernel
theorem dX5_append_0 : decode cX5_append 0 = .ok (.aload_n 0, 1) := by decide +kernel
theorem dX5_append_1 : decode cX5_append 1 = .ok (.iconst 0, 1) := by decide +kernel
theorem dX5_append_2 : decode cX5_append 2 = .ok (.putfield 27, 3) := by decide +kernel
theorem dX5_append_5 : decode cX5_append 5 = .ok (.aload_n 0, 1) := by decide +kernel
theorem dX5_append_6 : decode cX5_append 6 = .ok (.getfield 117, 3) := by decide +kernel
theorem dX5_append_9 : decode cX5_append 9 = .ok (.bipush 20, 2) := by decide +kernel
theorem dX5_append_11 : decode cX5_append 11 = .ok (.iadd, 1) := by decide +kernel
theorem dX5_append_12 : decode cX5_append 12 = .ok (.sipush 500, 3) := by decide +kernel
theorem dX5_append_15 : decode cX5_append 15 = .ok (.if_icmp .le 5, 3) := by decide +kernel
theorem dX5_append_18 : decode cX5_append 18 = .ok (.iconst (-1), 1) := by decide +kernel
theorem dX5_append_19 : decode cX5_append 19 = .ok (.ireturn, 1) := by decide +kernel
theorem dX5_append_20 : decode cX5_append 20 = .ok (.iconst 0, 1) := by decide +kernel
theorem dX5_append_21 : decode cX5_append 21 = .ok (.istore 6, 2) := by decide +kernel
theorem dX5_append_23 : decode cX5_append 23 = .ok (.iload 6, 2) := by decide +kernel
theorem dX5_append_25 : decode cX5_append 25 = .ok (.bipush 20, 2) := by decide +kernel
theorem dX5_append_27 : decode cX5_append 27 = .ok (.if_icmp .ge 90, 3) := by decide +kernel
theorem dX5_append_30 : decode cX5_append 30 = .ok (.iload 6, 2) := by decide +kernel
theorem dX5_append_32 : decode cX5_append 32 = .ok (.iconst 4, 1) := by decide +kernel
theorem dX5_append_33 : decode cX5_append 33 = .ok (.if_icmp .ge 7, 3) := by decide +kernel
theorem dX5_append_36 : decode cX5_append 36 = .ok (.iload_n 1, 1) := by decide +kernel
theorem dX5_append_37 : decode cX5_append 37 = .ok (.goto 39, 3) := by decide +kernel
theorem dX5_append_40 : decode cX5_append 40 = .ok (.iload 6, 2) := by decide +kernel
theorem dX5_append_42 : decode cX5_append 42 = .ok (.bipush 8, 2) := by decide +kernel
theorem dX5_append_44 : decode cX5_append 44 = .ok (.if_icmp .ge 7, 3) := by decide +kernel
theorem dX5_append_47 : decode cX5_append 47 = .ok (.iload_n 2, 1) := by decide +kernel
theorem dX5_append_48 : decode cX5_append 48 = .ok (.goto 28, 3) := by decide +kernel
theorem dX5_append_51 : decode cX5_append 51 = .ok (.iload 6, 2) := by decide +kernel
theorem dX5_append_53 : decode cX5_append 53 = .ok (.bipush 12, 2) := by decide +kernel
theorem dX5_append_55 : decode cX5_append 55 = .ok (.if_icmp .ge 7, 3) := by decide +kernel
theorem dX5_append_58 : decode cX5_append 58 = .ok (.iload_n 3, 1) := by decide +kernel
theorem dX5_append_59 : decode cX5_append 59 = .ok (.goto 17, 3) := by decide +kernel
theorem dX5_append_62 : decode cX5_append 62 = .ok (.iload 6, 2) := by decide +kernel
theorem dX5_append_64 : decode cX5_append 64 = .ok (.bipush 16, 2) := by decide +kernel
theorem dX5_append_66 : decode cX5_append 66 = .ok (.if_icmp .ge 8, 3) := by decide +kernel
theorem dX5_append_69 : decode cX5_append 69 = .ok (.iload 4, 2) := by decide +kernel
theorem dX5_append_71 : decode cX5_append 71 = .ok (.goto 5, 3) := by decide +kernel
theorem dX5_append_74 : decode cX5_append 74 = .ok (.iload 5, 2) := by decide +kernel
theorem dX5_append_76 : decode cX5_append 76 = .ok (.istore 7, 2) := by decide +kernel
theorem dX5_append_78 : decode cX5_append 78 = .ok (.aload_n 0, 1) := by decide +kernel
theorem dX5_append_79 : decode cX5_append 79 = .ok (.getfield 16, 3) := by decide +kernel
theorem dX5_append_82 : decode cX5_append 82 = .ok (.aload_n 0, 1) := by decide +kernel
theorem dX5_append_83 : decode cX5_append 83 = .ok (.getfield 117, 3) := by decide +kernel
theorem dX5_append_86 : decode cX5_append 86 = .ok (.iload 7, 2) := by decide +kernel
theorem dX5_append_88 : decode cX5_append 88 = .ok (.bipush 24, 2) := by decide +kernel
theorem dX5_append_90 : decode cX5_append 90 = .ok (.bipush 8, 2) := by decide +kernel
theorem dX5_append_92 : decode cX5_append 92 = .ok (.iload 6, 2) := by decide +kernel
theorem dX5_append_94 : decode cX5_append 94 = .ok (.iconst 4, 1) := by decide +kernel
theorem dX5_append_95 : decode cX5_append 95 = .ok (.irem, 1) := by decide +kernel
theorem dX5_append_96 : decode cX5_append 96 = .ok (.imul, 1) := by decide +kernel
theorem dX5_append_97 : decode cX5_append 97 = .ok (.isub, 1) := by decide +kernel
theorem dX5_append_98 : decode cX5_append 98 = .ok (.ishr, 1) := by decide +kernel
theorem dX5_append_99 : decode cX5_append 99 = .ok (.i2b, 1) := by decide +kernel
theorem dX5_append_100 : decode cX5_append 100 = .ok (.bastore, 1) := by decide +kernel
theorem dX5_append_101 : decode cX5_append 101 = .ok (.aload_n 0, 1) := by decide +kernel
theorem dX5_append_102 : decode cX5_append 102 = .ok (.dup, 1) := by decide +kernel
theorem dX5_append_103 : decode cX5_append 103 = .ok (.getfield 117, 3) := by decide +kernel
theorem dX5_append_106 : decode cX5_append 106 = .ok (.iconst 1, 1) := by decide +kernel
theorem dX5_append_107 : decode cX5_append 107 = .ok (.iadd, 1) := by decide +kernel
theorem dX5_append_108 : decode cX5_append 108 = .ok (.putfield 117, 3) := by decide +kernel
theorem dX5_append_111 : decode cX5_append 111 = .ok (.iinc 6 1, 3) := by decide +kernel
theorem dX5_append_114 : decode cX5_append 114 = .ok (.goto (-91), 3) := by decide +kernel
theorem dX5_append_117 : decode cX5_append 117 = .ok (.aload_n 0, 1) := by decide +kernel
theorem dX5_append_118 : decode cX5_append 118 = .ok (.getfield 117, 3) := by decide +kernel
theorem dX5_append_121 : decode cX5_append 121 = .ok (.ireturn, 1) := by decide +kernel
theorem dX5_truncate_0 : decode cX5_truncate 0 = .ok (.aload_n 0, 1) := by decide +kernel
theorem dX5_truncate_1 : decode cX5_truncate 1 = .ok (.iconst 0, 1) := by decide +kernel
theorem dX5_truncate_2 : decode cX5_truncate 2 = .ok (.putfield 27, 3) := by decide +kernel
theorem dX5_truncate_5 : decode cX5_truncate 5 = .ok (.iload_n 1, 1) := by decide +kernel
theorem dX5_truncate_6 : decode cX5_truncate 6 = .ok (.ifCond .lt 11, 3) := by decide +kernel
theorem dX5_truncate_9 : decode cX5_truncate 9 = .ok (.iload_n 1, 1) := by decide +kernel
theorem dX5_truncate_10 : decode cX5_truncate 10 = .ok (.aload_n 0, 1) := by decide +kernel
theorem dX5_truncate_11 : decode cX5_truncate 11 = .ok (.getfield 117, 3) := by decide +kernel
theorem dX5_truncate_14 : decode cX5_truncate 14 = .ok (.if_icmp .le 5, 3) := by decide +kernel
theorem dX5_truncate_17 : decode cX5_truncate 17 = .ok (.iconst 0, 1) := by decide +kernel
theorem dX5_truncate_18 : decode cX5_truncate 18 = .ok (.ireturn, 1) := by decide +kernel
theorem dX5_truncate_19 : decode cX5_truncate 19 = .ok (.aload_n 0, 1) := by decide +kernel
theorem dX5_truncate_20 : decode cX5_truncate 20 = .ok (.iload_n 1, 1) := by decide +kernel
theorem dX5_truncate_21 : decode cX5_truncate 21 = .ok (.putfield 117, 3) := by decide +kernel
theorem dX5_truncate_24 : decode cX5_truncate 24 = .ok (.iconst 1, 1) := by decide +kernel
theorem dX5_truncate_25 : decode cX5_truncate 25 = .ok (.ireturn, 1) := by decide +kernel
theorem dX5_byteAt_0 : decode cX5_byteAt 0 = .ok (.iload_n 1, 1) := by decide +kernel
theorem dX5_byteAt_1 : decode cX5_byteAt 1 = .ok (.aload_n 0, 1) := by decide +kernel
theorem dX5_byteAt_2 : decode cX5_byteAt 2 = .ok (.getfield 120, 3) := by decide +kernel
theorem dX5_byteAt_5 : decode cX5_byteAt 5 = .ok (.if_icmp .ge 16, 3) := by decide +kernel
theorem dX5_byteAt_8 : decode cX5_byteAt 8 = .ok (.aload_n 0, 1) := by decide +kernel
theorem dX5_byteAt_9 : decode cX5_byteAt 9 = .ok (.getfield 16, 3) := by decide +kernel
theorem dX5_byteAt_12 : decode cX5_byteAt 12 = .ok (.iload_n 1, 1) := by decide +kernel
theorem dX5_byteAt_13 : decode cX5_byteAt 13 = .ok (.baload, 1) := by decide +kernel
theorem dX5_byteAt_14 : decode cX5_byteAt 14 = .ok (.sipush 255, 3) := by decide +kernel
theorem dX5_byteAt_17 : decode cX5_byteAt 17 = .ok (.iand, 1) := by decide +kernel
theorem dX5_byteAt_18 : decode cX5_byteAt 18 = .ok (.goto 4, 3) := by decide +kernel
theorem dX5_byteAt_21 : decode cX5_byteAt 21 = .ok (.iconst (-1), 1) := by decide +kernel
theorem dX5_byteAt_22 : decode cX5_byteAt 22 = .ok (.ireturn, 1) := by decide +kernel
theorem dX5_peek_0 : decode cX5_peek 0 = .ok (.aload_n 0, 1) := by decide +kernel
theorem dX5_peek_1 : decode cX5_peek 1 = .ok (.aload_n 0, 1) := by decide +kernel
theorem dX5_peek_2 : decode cX5_peek 2 = .ok (.getfield 123, 3) := by decide +kernel
theorem dX5_peek_5 : decode cX5_peek 5 = .ok (.invokevirtual 126, 3) := by decide +kernel
theorem dX5_peek_8 : decode cX5_peek 8 = .ok (.bipush 32, 2) := by decide +kernel
theorem dX5_peek_10 : decode cX5_peek 10 = .ok (.if_icmp .eq 29, 3) := by decide +kernel
theorem dX5_peek_13 : decode cX5_peek 13 = .ok (.aload_n 0, 1) := by decide +kernel
theorem dX5_peek_14 : decode cX5_peek 14 = .ok (.aload_n 0, 1) := by decide +kernel
theorem dX5_peek_15 : decode cX5_peek 15 = .ok (.getfield 123, 3) := by decide +kernel
theorem dX5_peek_18 : decode cX5_peek 18 = .ok (.invokevirtual 126, 3) := by decide +kernel
theorem dX5_peek_21 : decode cX5_peek 21 = .ok (.bipush 9, 2) := by decide +kernel
theorem dX5_peek_23 : decode cX5_peek 23 = .ok (.if_icmp .eq 16, 3) := by decide +kernel
theorem dX5_peek_26 : decode cX5_peek 26 = .ok (.aload_n 0, 1) := by decide +kernel
theorem dX5_peek_27 : decode cX5_peek 27 = .ok (.aload_n 0, 1) := by decide +kernel
theorem dX5_peek_28 : decode cX5_peek 28 = .ok (.getfield 123, 3) := by decide +kernel
theorem dX5_peek_31 : decode cX5_peek 31 = .ok (.invokevirtual 126, 3) := by decide +kernel
theorem dX5_peek_34 : decode cX5_peek 34 = .ok (.bipush 10, 2) := by decide +kernel
theorem dX5_peek_36 : decode cX5_peek 36 = .ok (.if_icmp .ne 16, 3) := by decide +kernel
theorem dX5_peek_39 : decode cX5_peek 39 = .ok (.aload_n 0, 1) := by decide +kernel
theorem dX5_peek_40 : decode cX5_peek 40 = .ok (.dup, 1) := by decide +kernel
theorem dX5_peek_41 : decode cX5_peek 41 = .ok (.getfield 123, 3) := by decide +kernel
theorem dX5_peek_44 : decode cX5_peek 44 = .ok (.iconst 1, 1) := by decide +kernel
theorem dX5_peek_45 : decode cX5_peek 45 = .ok (.iadd, 1) := by decide +kernel
theorem dX5_peek_46 : decode cX5_peek 46 = .ok (.putfield 123, 3) := by decide +kernel
theorem dX5_peek_49 : decode cX5_peek 49 = .ok (.goto (-49), 3) := by decide +kernel
theorem dX5_peek_52 : decode cX5_peek 52 = .ok (.aload_n 0, 1) := by decide +kernel
theorem dX5_peek_53 : decode cX5_peek 53 = .ok (.aload_n 0, 1) := by decide +kernel
theorem dX5_peek_54 : decode cX5_peek 54 = .ok (.getfield 123, 3) := by decide +kernel
theorem dX5_peek_57 : decode cX5_peek 57 = .ok (.invokevirtual 126, 3) := by decide +kernel
theorem dX5_peek_60 : decode cX5_peek 60 = .ok (.ireturn, 1) := by decide +kernel
theorem dX5_failed_0 : decode cX5_failed 0 = .ok (.aload_n 0, 1) := by decide +kernel
theorem dX5_failed_1 : decode cX5_failed 1 = .ok (.getfield 129, 3) := by decide +kernel
theorem dX5_failed_4 : decode cX5_failed 4 = .ok (.ifCond .eq 7, 3) := by decide +kernel
theorem dX5_failed_7 : decode cX5_failed 7 = .ok (.iconst 1, 1) := by decide +kernel
theorem dX5_failed_8 : decode cX5_failed 8 = .ok (.goto 4, 3) := by decide +kernel
theorem dX5_failed_11 : decode cX5_failed 11 = .ok (.iconst 0, 1) := by decide +kernel
theorem dX5_failed_12 : decode cX5_failed 12 = .ok (.ireturn, 1) := by decide +kernel
theorem dX5_fail_0 : decode cX5_fail 0 = .ok (.aload_n 0, 1) := by decide +kernel
theorem dX5_fail_1 : decode cX5_fail 1 = .ok (.getfield 129, 3) := by decide +kernel
theorem dX5_fail_4 : decode cX5_fail 4 = .ok (.ifCond .ne 13, 3) := by decide +kernel
theorem dX5_fail_7 : decode cX5_fail 7 = .ok (.aload_n 0, 1) := by decide +kernel
theorem dX5_fail_8 : decode cX5_fail 8 = .ok (.iload_n 1, 1) := by decide +kernel
theorem dX5_fail_9 : decode cX5_fail 9 = .ok (.putfield 129, 3) := by decide +kernel
theorem dX5_fail_12 : decode cX5_fail 12 = .ok (.aload_n 0, 1) := by decide +kernel
theorem dX5_fail_13 : decode cX5_fail 13 = .ok (.iload_n 2, 1) := by decide +kernel
theorem dX5_fail_14 : decode cX5_fail 14 = .ok (.putfield 20, 3) := by decide +kernel
theorem dX5_fail_17 : decode cX5_fail 17 = .ok (.return_, 1) := by decide +kernel
theorem dX5_begins_0 : decode cX5_begins 0 = .ok (.aload_n 0, 1) := by decide +kernel
theorem dX5_begins_1 : decode cX5_begins 1 = .ok (.bipush 10, 2) := by decide +kernel
theorem dX5_begins_3 : decode cX5_begins 3 = .ok (.invokevirtual 114, 3) := by decide +kernel
theorem dX5_begins_6 : decode cX5_begins 6 = .ok (.aload_n 0, 1) := by decide +kernel
theorem dX5_begins_7 : decode cX5_begins 7 = .ok (.aload_n 0, 1) := by decide +kernel
theorem dX5_begins_8 : decode cX5_begins 8 = .ok (.getfield 117, 3) := by decide +kernel
theorem dX5_begins_11 : decode cX5_begins 11 = .ok (.putfield 120, 3) := by decide +kernel
theorem dX5_begins_14 : decode cX5_begins 14 = .ok (.aload_n 0, 1) := by decide +kernel
theorem dX5_begins_15 : decode cX5_begins 15 = .ok (.iconst 0, 1) := by decide +kernel
theorem dX5_begins_16 : decode cX5_begins 16 = .ok (.putfield 117, 3) := by decide +kernel
theorem dX5_begins_19 : decode cX5_begins 19 = .ok (.aload_n 0, 1) := by decide +kernel
theorem dX5_begins_20 : decode cX5_begins 20 = .ok (.iconst 0, 1) := by decide +kernel
theorem dX5_begins_21 : decode cX5_begins 21 = .ok (.putfield 123, 3) := by decide +kernel
theorem dX5_begins_24 : decode cX5_begins 24 = .ok (.aload_n 0, 1) := by decide +kernel
theorem dX5_begins_25 : decode cX5_begins 25 = .ok (.iconst 0, 1) := by decide +kernel
theorem dX5_begins_26 : decode cX5_begins 26 = .ok (.putfield 129, 3) := by decide +kernel
theorem dX5_begins_29 : decode cX5_begins 29 = .ok (.aload_n 0, 1) := by decide +kernel
theorem dX5_begins_30 : decode cX5_begins 30 = .ok (.iconst (-1), 1) := by decide +kernel
theorem dX5_begins_31 : decode cX5_begins 31 = .ok (.putfield 20, 3) := by decide +kernel
theorem dX5_begins_34 : decode cX5_begins 34 = .ok (.return_, 1) := by decide +kernel
theorem dX5_accepts_0 : decode cX5_accepts 0 = .ok (.aload_n 0, 1) := by decide +kernel
theorem dX5_accepts_1 : decode cX5_accepts 1 = .ok (.invokevirtual 132, 3) := by decide +kernel
theorem dX5_accepts_4 : decode cX5_accepts 4 = .ok (.istore_n 2, 1) := by decide +kernel
theorem dX5_accepts_5 : decode cX5_accepts 5 = .ok (.aload_n 0, 1) := by decide +kernel
theorem dX5_accepts_6 : decode cX5_accepts 6 = .ok (.getfield 123, 3) := by decide +kernel
theorem dX5_accepts_9 : decode cX5_accepts 9 = .ok (.istore_n 3, 1) := by decide +kernel
theorem dX5_accepts_10 : decode cX5_accepts 10 = .ok (.aload_n 0, 1) := by decide +kernel
theorem dX5_accepts_11 : decode cX5_accepts 11 = .ok (.iload_n 3, 1) := by decide +kernel
theorem dX5_accepts_12 : decode cX5_accepts 12 = .ok (.invokevirtual 126, 3) := by decide +kernel
theorem dX5_accepts_15 : decode cX5_accepts 15 = .ok (.bipush 97, 2) := by decide +kernel
theorem dX5_accepts_17 : decode cX5_accepts 17 = .ok (.bipush 122, 2) := by decide +kernel
theorem dX5_accepts_19 : decode cX5_accepts 19 = .ok (.invokestatic 63, 3) := by decide +kernel
theorem dX5_accepts_22 : decode cX5_accepts 22 = .ok (.ifCond .eq 9, 3) := by decide +kernel
theorem dX5_accepts_25 : decode cX5_accepts 25 = .ok (.iinc 3 1, 3) := by decide +kernel
theorem dX5_accepts_28 : decode cX5_accepts 28 = .ok (.goto (-18), 3) := by decide +kernel
theorem dX5_accepts_31 : decode cX5_accepts 31 = .ok (.aload_n 0, 1) := by decide +kernel
theorem dX5_accepts_32 : decode cX5_accepts 32 = .ok (.invokevirtual 135, 3) := by decide +kernel
theorem dX5_accepts_35 : decode cX5_accepts 35 = .ok (.ifCond .ne 20, 3) := by decide +kernel
theorem dX5_accepts_38 : decode cX5_accepts 38 = .ok (.iload_n 3, 1) := by decide +kernel
theorem dX5_accepts_39 : decode cX5_accepts 39 = .ok (.aload_n 0, 1) := by decide +kernel
theorem dX5_accepts_40 : decode cX5_accepts 40 = .ok (.getfield 123, 3) := by decide +kernel
theorem dX5_accepts_43 : decode cX5_accepts 43 = .ok (.isub, 1) := by decide +kernel
theorem dX5_accepts_44 : decode cX5_accepts 44 = .ok (.aload_n 1, 1) := by decide +kernel
theorem dX5_accepts_45 : decode cX5_accepts 45 = .ok (.invokevirtual 138, 3) := by decide +kernel
theorem dX5_accepts_48 : decode cX5_accepts 48 = .ok (.if_icmp .ne 7, 3) := by decide +kernel
theorem dX5_accepts_51 : decode cX5_accepts 51 = .ok (.iconst 1, 1) := by decide +kernel
theorem dX5_accepts_52 : decode cX5_accepts 52 = .ok (.goto 4, 3) := by decide +kernel
theorem dX5_accepts_55 : decode cX5_accepts 55 = .ok (.iconst 0, 1) := by decide +kernel
theorem dX5_accepts_56 : decode cX5_accepts 56 = .ok (.istore 4, 2) := by decide +kernel
theorem dX5_accepts_58 : decode cX5_accepts 58 = .ok (.iconst 0, 1) := by decide +kernel
theorem dX5_accepts_59 : decode cX5_accepts 59 = .ok (.istore 5, 2) := by decide +kernel
theorem dX5_accepts_61 : decode cX5_accepts 61 = .ok (.iload 5, 2) := by decide +kernel
theorem dX5_accepts_63 : decode cX5_accepts 63 = .ok (.aload_n 1, 1) := by decide +kernel
theorem dX5_accepts_64 : decode cX5_accepts 64 = .ok (.invokevirtual 138, 3) := by decide +kernel
theorem dX5_accepts_67 : decode cX5_accepts 67 = .ok (.if_icmp .ge 41, 3) := by decide +kernel
theorem dX5_accepts_70 : decode cX5_accepts 70 = .ok (.iload 4, 2) := by decide +kernel
theorem dX5_accepts_72 : decode cX5_accepts 72 = .ok (.ifCond .eq 36, 3) := by decide +kernel
theorem dX5_accepts_75 : decode cX5_accepts 75 = .ok (.aload_n 0, 1) := by decide +kernel
theorem dX5_accepts_76 : decode cX5_accepts 76 = .ok (.aload_n 0, 1) := by decide +kernel
theorem dX5_accepts_77 : decode cX5_accepts 77 = .ok (.getfield 123, 3) := by decide +kernel
theorem dX5_accepts_80 : decode cX5_accepts 80 = .ok (.iload 5, 2) := by decide +kernel
theorem dX5_accepts_82 : decode cX5_accepts 82 = .ok (.iadd, 1) := by decide +kernel
theorem dX5_accepts_83 : decode cX5_accepts 83 = .ok (.invokevirtual 126, 3) := by decide +kernel
theorem dX5_accepts_86 : decode cX5_accepts 86 = .ok (.aload_n 1, 1) := by decide +kernel
theorem dX5_accepts_87 : decode cX5_accepts 87 = .ok (.iload 5, 2) := by decide +kernel
theorem dX5_accepts_89 : decode cX5_accepts 89 = .ok (.invokevirtual 143, 3) := by decide +kernel
theorem dX5_accepts_92 : decode cX5_accepts 92 = .ok (.if_icmp .ne 7, 3) := by decide +kernel
theorem dX5_accepts_95 : decode cX5_accepts 95 = .ok (.iconst 1, 1) := by decide +kernel
theorem dX5_accepts_96 : decode cX5_accepts 96 = .ok (.goto 4, 3) := by decide +kernel
theorem dX5_accepts_99 : decode cX5_accepts 99 = .ok (.iconst 0, 1) := by decide +kernel
theorem dX5_accepts_100 : decode cX5_accepts 100 = .ok (.istore 4, 2) := by decide +kernel
theorem dX5_accepts_102 : decode cX5_accepts 102 = .ok (.iinc 5 1, 3) := by decide +kernel
theorem dX5_accepts_105 : decode cX5_accepts 105 = .ok (.goto (-44), 3) := by decide +kernel
theorem dX5_accepts_108 : decode cX5_accepts 108 = .ok (.iload 4, 2) := by decide +kernel
theorem dX5_accepts_110 : decode cX5_accepts 110 = .ok (.ifCond .eq 16, 3) := by decide +kernel
theorem dX5_accepts_113 : decode cX5_accepts 113 = .ok (.aload_n 0, 1) := by decide +kernel
theorem dX5_accepts_114 : decode cX5_accepts 114 = .ok (.dup, 1) := by decide +kernel
theorem dX5_accepts_115 : decode cX5_accepts 115 = .ok (.getfield 123, 3) := by decide +kernel
theorem dX5_accepts_118 : decode cX5_accepts 118 = .ok (.aload_n 1, 1) := by decide +kernel
theorem dX5_accepts_119 : decode cX5_accepts 119 = .ok (.invokevirtual 138, 3) := by decide +kernel
theorem dX5_accepts_122 : decode cX5_accepts 122 = .ok (.iadd, 1) := by decide +kernel
theorem dX5_accepts_123 : decode cX5_accepts 123 = .ok (.putfield 123, 3) := by decide +kernel
theorem dX5_accepts_126 : decode cX5_accepts 126 = .ok (.iload 4, 2) := by decide +kernel
theorem dX5_accepts_128 : decode cX5_accepts 128 = .ok (.ireturn, 1) := by decide +kernel
theorem dX5_number_0 : decode cX5_number 0 = .ok (.aload_n 0, 1) := by decide +kernel
theorem dX5_number_1 : decode cX5_number 1 = .ok (.invokevirtual 135, 3) := by decide +kernel
theorem dX5_number_4 : decode cX5_number 4 = .ok (.ifCond .eq 5, 3) := by decide +kernel
theorem dX5_number_7 : decode cX5_number 7 = .ok (.iload_n 1, 1) := by decide +kernel
theorem dX5_number_8 : decode cX5_number 8 = .ok (.ireturn, 1) := by decide +kernel
theorem dX5_number_9 : decode cX5_number 9 = .ok (.aload_n 0, 1) := by decide +kernel
theorem dX5_number_10 : decode cX5_number 10 = .ok (.invokevirtual 132, 3) := by decide +kernel
theorem dX5_number_13 : decode cX5_number 13 = .ok (.bipush 48, 2) := by decide +kernel
theorem dX5_number_15 : decode cX5_number 15 = .ok (.bipush 57, 2) := by decide +kernel
theorem dX5_number_17 : decode cX5_number 17 = .ok (.invokestatic 63, 3) := by decide +kernel
theorem dX5_number_20 : decode cX5_number 20 = .ok (.ifCond .ne 14, 3) := by decide +kernel
theorem dX5_number_23 : decode cX5_number 23 = .ok (.aload_n 0, 1) := by decide +kernel
theorem dX5_number_24 : decode cX5_number 24 = .ok (.iconst 1, 1) := by decide +kernel
theorem dX5_number_25 : decode cX5_number 25 = .ok (.aload_n 0, 1) := by decide +kernel
theorem dX5_number_26 : decode cX5_number 26 = .ok (.getfield 123, 3) := by decide +kernel
theorem dX5_number_29 : decode cX5_number 29 = .ok (.invokevirtual 147, 3) := by decide +kernel
theorem dX5_number_32 : decode cX5_number 32 = .ok (.iload_n 1, 1) := by decide +kernel
theorem dX5_number_33 : decode cX5_number 33 = .ok (.ireturn, 1) := by decide +kernel
theorem dX5_number_34 : decode cX5_number 34 = .ok (.aload_n 0, 1) := by decide +kernel
theorem dX5_number_35 : decode cX5_number 35 = .ok (.aload_n 0, 1) := by decide +kernel
theorem dX5_number_36 : decode cX5_number 36 = .ok (.getfield 123, 3) := by decide +kernel
theorem dX5_number_39 : decode cX5_number 39 = .ok (.putfield 151, 3) := by decide +kernel
theorem dX5_number_42 : decode cX5_number 42 = .ok (.iconst 0, 1) := by decide +kernel
theorem dX5_number_43 : decode cX5_number 43 = .ok (.istore_n 3, 1) := by decide +kernel
theorem dX5_number_44 : decode cX5_number 44 = .ok (.aload_n 0, 1) := by decide +kernel
theorem dX5_number_45 : decode cX5_number 45 = .ok (.aload_n 0, 1) := by decide +kernel
theorem dX5_number_46 : decode cX5_number 46 = .ok (.getfield 123, 3) := by decide +kernel
theorem dX5_number_49 : decode cX5_number 49 = .ok (.invokevirtual 126, 3) := by decide +kernel
theorem dX5_number_52 : decode cX5_number 52 = .ok (.bipush 48, 2) := by decide +kernel
theorem dX5_number_54 : decode cX5_number 54 = .ok (.bipush 57, 2) := by decide +kernel
theorem dX5_number_56 : decode cX5_number 56 = .ok (.invokestatic 63, 3) := by decide +kernel
theorem dX5_number_59 : decode cX5_number 59 = .ok (.ifCond .eq 46, 3) := by decide +kernel
theorem dX5_number_62 : decode cX5_number 62 = .ok (.aload_n 0, 1) := by decide +kernel
theorem dX5_number_63 : decode cX5_number 63 = .ok (.getfield 123, 3) := by decide +kernel
theorem dX5_number_66 : decode cX5_number 66 = .ok (.aload_n 0, 1) := by decide +kernel
theorem dX5_number_67 : decode cX5_number 67 = .ok (.getfield 151, 3) := by decide +kernel
theorem dX5_number_70 : decode cX5_number 70 = .ok (.isub, 1) := by decide +kernel
theorem dX5_number_71 : decode cX5_number 71 = .ok (.iconst 3, 1) := by decide +kernel
theorem dX5_number_72 : decode cX5_number 72 = .ok (.if_icmp .ge 20, 3) := by decide +kernel
theorem dX5_number_75 : decode cX5_number 75 = .ok (.bipush 10, 2) := by decide +kernel
theorem dX5_number_77 : decode cX5_number 77 = .ok (.iload_n 3, 1) := by decide +kernel
theorem dX5_number_78 : decode cX5_number 78 = .ok (.imul, 1) := by decide +kernel
theorem dX5_number_79 : decode cX5_number 79 = .ok (.aload_n 0, 1) := by decide +kernel
theorem dX5_number_80 : decode cX5_number 80 = .ok (.aload_n 0, 1) := by decide +kernel
theorem dX5_number_81 : decode cX5_number 81 = .ok (.getfield 123, 3) := by decide +kernel
theorem dX5_number_84 : decode cX5_number 84 = .ok (.invokevirtual 126, 3) := by decide +kernel
theorem dX5_number_87 : decode cX5_number 87 = .ok (.iadd, 1) := by decide +kernel
theorem dX5_number_88 : decode cX5_number 88 = .ok (.bipush 48, 2) := by decide +kernel
theorem dX5_number_90 : decode cX5_number 90 = .ok (.isub, 1) := by decide +kernel
theorem dX5_number_91 : decode cX5_number 91 = .ok (.istore_n 3, 1) := by decide +kernel
theorem dX5_number_92 : decode cX5_number 92 = .ok (.aload_n 0, 1) := by decide +kernel
theorem dX5_number_93 : decode cX5_number 93 = .ok (.dup, 1) := by decide +kernel
theorem dX5_number_94 : decode cX5_number 94 = .ok (.getfield 123, 3) := by decide +kernel
theorem dX5_number_97 : decode cX5_number 97 = .ok (.iconst 1, 1) := by decide +kernel
theorem dX5_number_98 : decode cX5_number 98 = .ok (.iadd, 1) := by decide +kernel
theorem dX5_number_99 : decode cX5_number 99 = .ok (.putfield 123, 3) := by decide +kernel
theorem dX5_number_102 : decode cX5_number 102 = .ok (.goto (-58), 3) := by decide +kernel
theorem dX5_number_105 : decode cX5_number 105 = .ok (.aload_n 0, 1) := by decide +kernel
theorem dX5_number_106 : decode cX5_number 106 = .ok (.getfield 123, 3) := by decide +kernel
theorem dX5_number_109 : decode cX5_number 109 = .ok (.aload_n 0, 1) := by decide +kernel
theorem dX5_number_110 : decode cX5_number 110 = .ok (.getfield 151, 3) := by decide +kernel
theorem dX5_number_113 : decode cX5_number 113 = .ok (.isub, 1) := by decide +kernel
theorem dX5_number_114 : decode cX5_number 114 = .ok (.iconst 3, 1) := by decide +kernel
theorem dX5_number_115 : decode cX5_number 115 = .ok (.if_icmp .gt 12, 3) := by decide +kernel
theorem dX5_number_118 : decode cX5_number 118 = .ok (.iload_n 3, 1) := by decide +kernel
theorem dX5_number_119 : decode cX5_number 119 = .ok (.iload_n 1, 1) := by decide +kernel
theorem dX5_number_120 : decode cX5_number 120 = .ok (.iload_n 2, 1) := by decide +kernel
theorem dX5_number_121 : decode cX5_number 121 = .ok (.invokestatic 63, 3) := by decide +kernel
theorem dX5_number_124 : decode cX5_number 124 = .ok (.ifCond .ne 12, 3) := by decide +kernel
theorem dX5_number_127 : decode cX5_number 127 = .ok (.aload_n 0, 1) := by decide +kernel
theorem dX5_number_128 : decode cX5_number 128 = .ok (.iconst 2, 1) := by decide +kernel
theorem dX5_number_129 : decode cX5_number 129 = .ok (.aload_n 0, 1) := by decide +kernel
theorem dX5_number_130 : decode cX5_number 130 = .ok (.getfield 151, 3) := by decide +kernel
theorem dX5_number_133 : decode cX5_number 133 = .ok (.invokevirtual 147, 3) := by decide +kernel
theorem dX5_number_136 : decode cX5_number 136 = .ok (.aload_n 0, 1) := by decide +kernel
theorem dX5_number_137 : decode cX5_number 137 = .ok (.invokevirtual 135, 3) := by decide +kernel
theorem dX5_number_140 : decode cX5_number 140 = .ok (.ifCond .eq 7, 3) := by decide +kernel
theorem dX5_number_143 : decode cX5_number 143 = .ok (.iload_n 1, 1) := by decide +kernel
theorem dX5_number_144 : decode cX5_number 144 = .ok (.goto 4, 3) := by decide +kernel
theorem dX5_number_147 : decode cX5_number 147 = .ok (.iload_n 3, 1) := by decide +kernel
theorem dX5_number_148 : decode cX5_number 148 = .ok (.ireturn, 1) := by decide +kernel
theorem dX5_semicolon_0 : decode cX5_semicolon 0 = .ok (.aload_n 0, 1) := by decide +kernel
theorem dX5_semicolon_1 : decode cX5_semicolon 1 = .ok (.invokevirtual 135, 3) := by decide +kernel
theorem dX5_semicolon_4 : decode cX5_semicolon 4 = .ok (.ifCond .eq 4, 3) := by decide +kernel
theorem dX5_semicolon_7 : decode cX5_semicolon 7 = .ok (.return_, 1) := by decide +kernel
theorem dX5_semicolon_8 : decode cX5_semicolon 8 = .ok (.aload_n 0, 1) := by decide +kernel
theorem dX5_semicolon_9 : decode cX5_semicolon 9 = .ok (.invokevirtual 132, 3) := by decide +kernel
theorem dX5_semicolon_12 : decode cX5_semicolon 12 = .ok (.bipush 59, 2) := by decide +kernel
theorem dX5_semicolon_14 : decode cX5_semicolon 14 = .ok (.if_icmp .eq 13, 3) := by decide +kernel
theorem dX5_semicolon_17 : decode cX5_semicolon 17 = .ok (.aload_n 0, 1) := by decide +kernel
theorem dX5_semicolon_18 : decode cX5_semicolon 18 = .ok (.iconst 1, 1) := by decide +kernel
theorem dX5_semicolon_19 : decode cX5_semicolon 19 = .ok (.aload_n 0, 1) := by decide +kernel
theorem dX5_semicolon_20 : decode cX5_semicolon 20 = .ok (.getfield 123, 3) := by decide +kernel
theorem dX5_semicolon_23 : decode cX5_semicolon 23 = .ok (.invokevirtual 147, 3) := by decide +kernel
theorem dX5_semicolon_26 : decode cX5_semicolon 26 = .ok (.return_, 1) := by decide +kernel
theorem dX5_semicolon_27 : decode cX5_semicolon 27 = .ok (.aload_n 0, 1) := by decide +kernel
theorem dX5_semicolon_28 : decode cX5_semicolon 28 = .ok (.dup, 1) := by decide +kernel
theorem dX5_semicolon_29 : decode cX5_semicolon 29 = .ok (.getfield 123, 3) := by decide +kernel
theorem dX5_semicolon_32 : decode cX5_semicolon 32 = .ok (.iconst 1, 1) := by decide +kernel
theorem dX5_semicolon_33 : decode cX5_semicolon 33 = .ok (.iadd, 1) := by decide +kernel
theorem dX5_semicolon_34 : decode cX5_semicolon 34 = .ok (.putfield 123, 3) := by decide +kernel
theorem dX5_semicolon_37 : decode cX5_semicolon 37 = .ok (.return_, 1) := by decide +kernel
theorem dX5_policyWord_0 : decode cX5_policyWord 0 = .ok (.aload_n 0, 1) := by decide +kernel
theorem dX5_policyWord_1 : decode cX5_policyWord 1 = .ok (.ldc 154, 2) := by decide +kernel
theorem dX5_policyWord_3 : decode cX5_policyWord 3 = .ok (.invokevirtual 155, 3) := by decide +kernel
theorem dX5_policyWord_6 : decode cX5_policyWord 6 = .ok (.ifCond .eq 7, 3) := by decide +kernel
theorem dX5_policyWord_9 : decode cX5_policyWord 9 = .ok (.iconst 0, 1) := by decide +kernel
theorem dX5_policyWord_10 : decode cX5_policyWord 10 = .ok (.goto 30, 3) := by decide +kernel
theorem dX5_policyWord_13 : decode cX5_policyWord 13 = .ok (.aload_n 0, 1) := by decide +kernel
theorem dX5_policyWord_14 : decode cX5_policyWord 14 = .ok (.ldc 159, 2) := by decide +kernel
theorem dX5_policyWord_16 : decode cX5_policyWord 16 = .ok (.invokevirtual 155, 3) := by decide +kernel
theorem dX5_policyWord_19 : decode cX5_policyWord 19 = .ok (.ifCond .eq 7, 3) := by decide +kernel
theorem dX5_policyWord_22 : decode cX5_policyWord 22 = .ok (.iconst 1, 1) := by decide +kernel
theorem dX5_policyWord_23 : decode cX5_policyWord 23 = .ok (.goto 17, 3) := by decide +kernel
theorem dX5_policyWord_26 : decode cX5_policyWord 26 = .ok (.aload_n 0, 1) := by decide +kernel
theorem dX5_policyWord_27 : decode cX5_policyWord 27 = .ok (.ldc 160, 2) := by decide +kernel
theorem dX5_policyWord_29 : decode cX5_policyWord 29 = .ok (.invokevirtual 155, 3) := by decide +kernel
theorem dX5_policyWord_32 : decode cX5_policyWord 32 = .ok (.ifCond .eq 7, 3) := by decide +kernel
theorem dX5_policyWord_35 : decode cX5_policyWord 35 = .ok (.iconst 2, 1) := by decide +kernel
theorem dX5_policyWord_36 : decode cX5_policyWord 36 = .ok (.goto 4, 3) := by decide +kernel
theorem dX5_policyWord_39 : decode cX5_policyWord 39 = .ok (.iconst (-1), 1) := by decide +kernel
theorem dX5_policyWord_40 : decode cX5_policyWord 40 = .ok (.istore_n 1, 1) := by decide +kernel
theorem dX5_policyWord_41 : decode cX5_policyWord 41 = .ok (.iload_n 1, 1) := by decide +kernel
theorem dX5_policyWord_42 : decode cX5_policyWord 42 = .ok (.iconst (-1), 1) := by decide +kernel
theorem dX5_policyWord_43 : decode cX5_policyWord 43 = .ok (.if_icmp .ne 12, 3) := by decide +kernel
theorem dX5_policyWord_46 : decode cX5_policyWord 46 = .ok (.aload_n 0, 1) := by decide +kernel
theorem dX5_policyWord_47 : decode cX5_policyWord 47 = .ok (.iconst 1, 1) := by decide +kernel
theorem dX5_policyWord_48 : decode cX5_policyWord 48 = .ok (.aload_n 0, 1) := by decide +kernel
theorem dX5_policyWord_49 : decode cX5_policyWord 49 = .ok (.getfield 123, 3) := by decide +kernel
theorem dX5_policyWord_52 : decode cX5_policyWord 52 = .ok (.invokevirtual 147, 3) := by decide +kernel
theorem dX5_policyWord_55 : decode cX5_policyWord 55 = .ok (.iload_n 1, 1) := by decide +kernel
theorem dX5_policyWord_56 : decode cX5_policyWord 56 = .ok (.ireturn, 1) := by decide +kernel
theorem dX5_floorNumber_0 : decode cX5_floorNumber 0 = .ok (.aload_n 0, 1) := by decide +kernel
theorem dX5_floorNumber_1 : decode cX5_floorNumber 1 = .ok (.iconst 0, 1) := by decide +kernel
theorem dX5_floorNumber_2 : decode cX5_floorNumber 2 = .ok (.aload_n 0, 1) := by decide +kernel
theorem dX5_floorNumber_3 : decode cX5_floorNumber 3 = .ok (.getfield 7, 3) := by decide +kernel
theorem dX5_floorNumber_6 : decode cX5_floorNumber 6 = .ok (.iconst 0, 1) := by decide +kernel
theorem dX5_floorNumber_7 : decode cX5_floorNumber 7 = .ok (.iaload, 1) := by decide +kernel
theorem dX5_floorNumber_8 : decode cX5_floorNumber 8 = .ok (.iconst 1, 1) := by decide +kernel
theorem dX5_floorNumber_9 : decode cX5_floorNumber 9 = .ok (.isub, 1) := by decide +kernel
theorem dX5_floorNumber_10 : decode cX5_floorNumber 10 = .ok (.invokevirtual 162, 3) := by decide +kernel
theorem dX5_floorNumber_13 : decode cX5_floorNumber 13 = .ok (.ireturn, 1) := by decide +kernel
theorem dX5_readsCall_0 : decode cX5_readsCall 0 = .ok (.aload_n 0, 1) := by decide +kernel
theorem dX5_readsCall_1 : decode cX5_readsCall 1 = .ok (.invokevirtual 166, 3) := by decide +kernel
theorem dX5_readsCall_4 : decode cX5_readsCall 4 = .ok (.istore_n 1, 1) := by decide +kernel
theorem dX5_readsCall_5 : decode cX5_readsCall 5 = .ok (.aload_n 0, 1) := by decide +kernel
theorem dX5_readsCall_6 : decode cX5_readsCall 6 = .ok (.invokevirtual 166, 3) := by decide +kernel
theorem dX5_readsCall_9 : decode cX5_readsCall 9 = .ok (.istore_n 2, 1) := by decide +kernel
theorem dX5_readsCall_10 : decode cX5_readsCall 10 = .ok (.aload_n 0, 1) := by decide +kernel
theorem dX5_readsCall_11 : decode cX5_readsCall 11 = .ok (.invokevirtual 135, 3) := by decide +kernel
theorem dX5_readsCall_14 : decode cX5_readsCall 14 = .ok (.ifCond .ne 17, 3) := by decide +kernel
theorem dX5_readsCall_17 : decode cX5_readsCall 17 = .ok (.iload_n 1, 1) := by decide +kernel
theorem dX5_readsCall_18 : decode cX5_readsCall 18 = .ok (.iload_n 2, 1) := by decide +kernel
theorem dX5_readsCall_19 : decode cX5_readsCall 19 = .ok (.if_icmp .ne 12, 3) := by decide +kernel
theorem dX5_readsCall_22 : decode cX5_readsCall 22 = .ok (.aload_n 0, 1) := by decide +kernel
theorem dX5_readsCall_23 : decode cX5_readsCall 23 = .ok (.iconst 2, 1) := by decide +kernel
theorem dX5_readsCall_24 : decode cX5_readsCall 24 = .ok (.aload_n 0, 1) := by decide +kernel
theorem dX5_readsCall_25 : decode cX5_readsCall 25 = .ok (.getfield 151, 3) := by decide +kernel
theorem dX5_readsCall_28 : decode cX5_readsCall 28 = .ok (.invokevirtual 147, 3) := by decide +kernel
theorem dX5_readsCall_31 : decode cX5_readsCall 31 = .ok (.aload_n 0, 1) := by decide +kernel
theorem dX5_readsCall_32 : decode cX5_readsCall 32 = .ok (.ldc 169, 2) := by decide +kernel
theorem dX5_readsCall_34 : decode cX5_readsCall 34 = .ok (.invokevirtual 155, 3) := by decide +kernel
theorem dX5_readsCall_37 : decode cX5_readsCall 37 = .ok (.ifCond .eq 19, 3) := by decide +kernel
theorem dX5_readsCall_40 : decode cX5_readsCall 40 = .ok (.aload_n 0, 1) := by decide +kernel
theorem dX5_readsCall_41 : decode cX5_readsCall 41 = .ok (.aload_n 0, 1) := by decide +kernel
theorem dX5_readsCall_42 : decode cX5_readsCall 42 = .ok (.getfield 7, 3) := by decide +kernel
theorem dX5_readsCall_45 : decode cX5_readsCall 45 = .ok (.iconst 3, 1) := by decide +kernel
theorem dX5_readsCall_46 : decode cX5_readsCall 46 = .ok (.iaload, 1) := by decide +kernel
theorem dX5_readsCall_47 : decode cX5_readsCall 47 = .ok (.sipush 999, 3) := by decide +kernel
theorem dX5_readsCall_50 : decode cX5_readsCall 50 = .ok (.invokevirtual 162, 3) := by decide +kernel
theorem dX5_readsCall_53 : decode cX5_readsCall 53 = .ok (.goto 9, 3) := by decide +kernel
theorem dX5_readsCall_56 : decode cX5_readsCall 56 = .ok (.aload_n 0, 1) := by decide +kernel
theorem dX5_readsCall_57 : decode cX5_readsCall 57 = .ok (.getfield 7, 3) := by decide +kernel
theorem dX5_readsCall_60 : decode cX5_readsCall 60 = .ok (.iconst 3, 1) := by decide +kernel
theorem dX5_readsCall_61 : decode cX5_readsCall 61 = .ok (.iaload, 1) := by decide +kernel
theorem dX5_readsCall_62 : decode cX5_readsCall 62 = .ok (.istore_n 3, 1) := by decide +kernel
theorem dX5_readsCall_63 : decode cX5_readsCall 63 = .ok (.aload_n 0, 1) := by decide +kernel
theorem dX5_readsCall_64 : decode cX5_readsCall 64 = .ok (.invokevirtual 170, 3) := by decide +kernel
theorem dX5_readsCall_67 : decode cX5_readsCall 67 = .ok (.aload_n 0, 1) := by decide +kernel
theorem dX5_readsCall_68 : decode cX5_readsCall 68 = .ok (.invokevirtual 135, 3) := by decide +kernel
theorem dX5_readsCall_71 : decode cX5_readsCall 71 = .ok (.ifCond .ne 10, 3) := by decide +kernel
theorem dX5_readsCall_74 : decode cX5_readsCall 74 = .ok (.aload_n 0, 1) := by decide +kernel
theorem dX5_readsCall_75 : decode cX5_readsCall 75 = .ok (.iload_n 1, 1) := by decide +kernel
theorem dX5_readsCall_76 : decode cX5_readsCall 76 = .ok (.iload_n 2, 1) := by decide +kernel
theorem dX5_readsCall_77 : decode cX5_readsCall 77 = .ok (.iload_n 3, 1) := by decide +kernel
theorem dX5_readsCall_78 : decode cX5_readsCall 78 = .ok (.invokevirtual 173, 3) := by decide +kernel
theorem dX5_readsCall_81 : decode cX5_readsCall 81 = .ok (.return_, 1) := by decide +kernel
theorem dX5_readsRun_0 : decode cX5_readsRun 0 = .ok (.aload_n 0, 1) := by decide +kernel
theorem dX5_readsRun_1 : decode cX5_readsRun 1 = .ok (.iconst 1, 1) := by decide +kernel
theorem dX5_readsRun_2 : decode cX5_readsRun 2 = .ok (.sipush 999, 3) := by decide +kernel
theorem dX5_readsRun_5 : decode cX5_readsRun 5 = .ok (.invokevirtual 162, 3) := by decide +kernel
theorem dX5_readsRun_8 : decode cX5_readsRun 8 = .ok (.istore_n 1, 1) := by decide +kernel
theorem dX5_readsRun_9 : decode cX5_readsRun 9 = .ok (.aload_n 0, 1) := by decide +kernel
theorem dX5_readsRun_10 : decode cX5_readsRun 10 = .ok (.invokevirtual 135, 3) := by decide +kernel
theorem dX5_readsRun_13 : decode cX5_readsRun 13 = .ok (.ifCond .ne 26, 3) := by decide +kernel
theorem dX5_readsRun_16 : decode cX5_readsRun 16 = .ok (.aload_n 0, 1) := by decide +kernel
theorem dX5_readsRun_17 : decode cX5_readsRun 17 = .ok (.getfield 7, 3) := by decide +kernel
theorem dX5_readsRun_20 : decode cX5_readsRun 20 = .ok (.iconst 3, 1) := by decide +kernel
theorem dX5_readsRun_21 : decode cX5_readsRun 21 = .ok (.iaload, 1) := by decide +kernel
theorem dX5_readsRun_22 : decode cX5_readsRun 22 = .ok (.iload_n 1, 1) := by decide +kernel
theorem dX5_readsRun_23 : decode cX5_readsRun 23 = .ok (.iadd, 1) := by decide +kernel
theorem dX5_readsRun_24 : decode cX5_readsRun 24 = .ok (.sipush 999, 3) := by decide +kernel
theorem dX5_readsRun_27 : decode cX5_readsRun 27 = .ok (.if_icmp .le 12, 3) := by decide +kernel
theorem dX5_readsRun_30 : decode cX5_readsRun 30 = .ok (.aload_n 0, 1) := by decide +kernel
theorem dX5_readsRun_31 : decode cX5_readsRun 31 = .ok (.iconst 4, 1) := by decide +kernel
theorem dX5_readsRun_32 : decode cX5_readsRun 32 = .ok (.aload_n 0, 1) := by decide +kernel
theorem dX5_readsRun_33 : decode cX5_readsRun 33 = .ok (.getfield 151, 3) := by decide +kernel
theorem dX5_readsRun_36 : decode cX5_readsRun 36 = .ok (.invokevirtual 147, 3) := by decide +kernel
theorem dX5_readsRun_39 : decode cX5_readsRun 39 = .ok (.aload_n 0, 1) := by decide +kernel
theorem dX5_readsRun_40 : decode cX5_readsRun 40 = .ok (.invokevirtual 170, 3) := by decide +kernel
theorem dX5_readsRun_43 : decode cX5_readsRun 43 = .ok (.iconst 0, 1) := by decide +kernel
theorem dX5_readsRun_44 : decode cX5_readsRun 44 = .ok (.istore_n 2, 1) := by decide +kernel
theorem dX5_readsRun_45 : decode cX5_readsRun 45 = .ok (.iload_n 2, 1) := by decide +kernel
theorem dX5_readsRun_46 : decode cX5_readsRun 46 = .ok (.iload_n 1, 1) := by decide +kernel
theorem dX5_readsRun_47 : decode cX5_readsRun 47 = .ok (.if_icmp .ge 20, 3) := by decide +kernel
theorem dX5_readsRun_50 : decode cX5_readsRun 50 = .ok (.aload_n 0, 1) := by decide +kernel
theorem dX5_readsRun_51 : decode cX5_readsRun 51 = .ok (.invokevirtual 135, 3) := by decide +kernel
theorem dX5_readsRun_54 : decode cX5_readsRun 54 = .ok (.ifCond .ne 13, 3) := by decide +kernel
theorem dX5_readsRun_57 : decode cX5_readsRun 57 = .ok (.aload_n 0, 1) := by decide +kernel
theorem dX5_readsRun_58 : decode cX5_readsRun 58 = .ok (.invokevirtual 104, 3) := by decide +kernel
theorem dX5_readsRun_61 : decode cX5_readsRun 61 = .ok (.iinc 2 1, 3) := by decide +kernel
theorem dX5_readsRun_64 : decode cX5_readsRun 64 = .ok (.goto (-19), 3) := by decide +kernel
theorem dX5_readsRun_67 : decode cX5_readsRun 67 = .ok (.return_, 1) := by decide +kernel
theorem dX5_readsCapacity_0 : decode cX5_readsCapacity 0 = .ok (.aload_n 0, 1) := by decide +kernel
theorem dX5_readsCapacity_1 : decode cX5_readsCapacity 1 = .ok (.iconst 1, 1) := by decide +kernel
theorem dX5_readsCapacity_2 : decode cX5_readsCapacity 2 = .ok (.bipush 8, 2) := by decide +kernel
theorem dX5_readsCapacity_4 : decode cX5_readsCapacity 4 = .ok (.invokevirtual 162, 3) := by decide +kernel
theorem dX5_readsCapacity_7 : decode cX5_readsCapacity 7 = .ok (.istore_n 1, 1) := by decide +kernel
theorem dX5_readsCapacity_8 : decode cX5_readsCapacity 8 = .ok (.aload_n 0, 1) := by decide +kernel
theorem dX5_readsCapacity_9 : decode cX5_readsCapacity 9 = .ok (.invokevirtual 135, 3) := by decide +kernel
theorem dX5_readsCapacity_12 : decode cX5_readsCapacity 12 = .ok (.ifCond .ne 21, 3) := by decide +kernel
theorem dX5_readsCapacity_15 : decode cX5_readsCapacity 15 = .ok (.aload_n 0, 1) := by decide +kernel
theorem dX5_readsCapacity_16 : decode cX5_readsCapacity 16 = .ok (.iconst 2, 1) := by decide +kernel
theorem dX5_readsCapacity_17 : decode cX5_readsCapacity 17 = .ok (.invokevirtual 46, 3) := by decide +kernel
theorem dX5_readsCapacity_20 : decode cX5_readsCapacity 20 = .ok (.iload_n 1, 1) := by decide +kernel
theorem dX5_readsCapacity_21 : decode cX5_readsCapacity 21 = .ok (.if_icmp .le 12, 3) := by decide +kernel
theorem dX5_readsCapacity_24 : decode cX5_readsCapacity 24 = .ok (.aload_n 0, 1) := by decide +kernel
theorem dX5_readsCapacity_25 : decode cX5_readsCapacity 25 = .ok (.iconst 4, 1) := by decide +kernel
theorem dX5_readsCapacity_26 : decode cX5_readsCapacity 26 = .ok (.aload_n 0, 1) := by decide +kernel
theorem dX5_readsCapacity_27 : decode cX5_readsCapacity 27 = .ok (.getfield 151, 3) := by decide +kernel
theorem dX5_readsCapacity_30 : decode cX5_readsCapacity 30 = .ok (.invokevirtual 147, 3) := by decide +kernel
theorem dX5_readsCapacity_33 : decode cX5_readsCapacity 33 = .ok (.aload_n 0, 1) := by decide +kernel
theorem dX5_readsCapacity_34 : decode cX5_readsCapacity 34 = .ok (.invokevirtual 170, 3) := by decide +kernel
theorem dX5_readsCapacity_37 : decode cX5_readsCapacity 37 = .ok (.aload_n 0, 1) := by decide +kernel
theorem dX5_readsCapacity_38 : decode cX5_readsCapacity 38 = .ok (.invokevirtual 135, 3) := by decide +kernel
theorem dX5_readsCapacity_41 : decode cX5_readsCapacity 41 = .ok (.ifCond .ne 10, 3) := by decide +kernel
theorem dX5_readsCapacity_44 : decode cX5_readsCapacity 44 = .ok (.aload_n 0, 1) := by decide +kernel
theorem dX5_readsCapacity_45 : decode cX5_readsCapacity 45 = .ok (.getfield 7, 3) := by decide +kernel
theorem dX5_readsCapacity_48 : decode cX5_readsCapacity 48 = .ok (.iconst 1, 1) := by decide +kernel
theorem dX5_readsCapacity_49 : decode cX5_readsCapacity 49 = .ok (.iload_n 1, 1) := by decide +kernel
theorem dX5_readsCapacity_50 : decode cX5_readsCapacity 50 = .ok (.iastore, 1) := by decide +kernel
theorem dX5_readsCapacity_51 : decode cX5_readsCapacity 51 = .ok (.return_, 1) := by decide +kernel
theorem dX5_readsPolicy_0 : decode cX5_readsPolicy 0 = .ok (.aload_n 0, 1) := by decide +kernel
theorem dX5_readsPolicy_1 : decode cX5_readsPolicy 1 = .ok (.invokevirtual 177, 3) := by decide +kernel
theorem dX5_readsPolicy_4 : decode cX5_readsPolicy 4 = .ok (.istore_n 1, 1) := by decide +kernel
theorem dX5_readsPolicy_5 : decode cX5_readsPolicy 5 = .ok (.aload_n 0, 1) := by decide +kernel
theorem dX5_readsPolicy_6 : decode cX5_readsPolicy 6 = .ok (.invokevirtual 170, 3) := by decide +kernel
theorem dX5_readsPolicy_9 : decode cX5_readsPolicy 9 = .ok (.aload_n 0, 1) := by decide +kernel
theorem dX5_readsPolicy_10 : decode cX5_readsPolicy 10 = .ok (.invokevirtual 135, 3) := by decide +kernel
theorem dX5_readsPolicy_13 : decode cX5_readsPolicy 13 = .ok (.ifCond .ne 10, 3) := by decide +kernel
theorem dX5_readsPolicy_16 : decode cX5_readsPolicy 16 = .ok (.aload_n 0, 1) := by decide +kernel
theorem dX5_readsPolicy_17 : decode cX5_readsPolicy 17 = .ok (.getfield 7, 3) := by decide +kernel
theorem dX5_readsPolicy_20 : decode cX5_readsPolicy 20 = .ok (.iconst 2, 1) := by decide +kernel
theorem dX5_readsPolicy_21 : decode cX5_readsPolicy 21 = .ok (.iload_n 1, 1) := by decide +kernel
theorem dX5_readsPolicy_22 : decode cX5_readsPolicy 22 = .ok (.iastore, 1) := by decide +kernel
theorem dX5_readsPolicy_23 : decode cX5_readsPolicy 23 = .ok (.return_, 1) := by decide +kernel
theorem dX5_counterWord_0 : decode cX5_counterWord 0 = .ok (.aload_n 0, 1) := by decide +kernel
theorem dX5_counterWord_1 : decode cX5_counterWord 1 = .ok (.ldc 180, 2) := by decide +kernel
theorem dX5_counterWord_3 : decode cX5_counterWord 3 = .ok (.invokevirtual 155, 3) := by decide +kernel
theorem dX5_counterWord_6 : decode cX5_counterWord 6 = .ok (.ifCond .eq 7, 3) := by decide +kernel
theorem dX5_counterWord_9 : decode cX5_counterWord 9 = .ok (.iconst 0, 1) := by decide +kernel
theorem dX5_counterWord_10 : decode cX5_counterWord 10 = .ok (.goto 30, 3) := by decide +kernel
theorem dX5_counterWord_13 : decode cX5_counterWord 13 = .ok (.aload_n 0, 1) := by decide +kernel
theorem dX5_counterWord_14 : decode cX5_counterWord 14 = .ok (.ldc 182, 2) := by decide +kernel
theorem dX5_counterWord_16 : decode cX5_counterWord 16 = .ok (.invokevirtual 155, 3) := by decide +kernel
theorem dX5_counterWord_19 : decode cX5_counterWord 19 = .ok (.ifCond .eq 7, 3) := by decide +kernel
theorem dX5_counterWord_22 : decode cX5_counterWord 22 = .ok (.iconst 1, 1) := by decide +kernel
theorem dX5_counterWord_23 : decode cX5_counterWord 23 = .ok (.goto 17, 3) := by decide +kernel
theorem dX5_counterWord_26 : decode cX5_counterWord 26 = .ok (.aload_n 0, 1) := by decide +kernel
theorem dX5_counterWord_27 : decode cX5_counterWord 27 = .ok (.ldc 184, 2) := by decide +kernel
theorem dX5_counterWord_29 : decode cX5_counterWord 29 = .ok (.invokevirtual 155, 3) := by decide +kernel
theorem dX5_counterWord_32 : decode cX5_counterWord 32 = .ok (.ifCond .eq 7, 3) := by decide +kernel
theorem dX5_counterWord_35 : decode cX5_counterWord 35 = .ok (.iconst 2, 1) := by decide +kernel
theorem dX5_counterWord_36 : decode cX5_counterWord 36 = .ok (.goto 4, 3) := by decide +kernel
theorem dX5_counterWord_39 : decode cX5_counterWord 39 = .ok (.iconst (-1), 1) := by decide +kernel
theorem dX5_counterWord_40 : decode cX5_counterWord 40 = .ok (.istore_n 1, 1) := by decide +kernel
theorem dX5_counterWord_41 : decode cX5_counterWord 41 = .ok (.iload_n 1, 1) := by decide +kernel
theorem dX5_counterWord_42 : decode cX5_counterWord 42 = .ok (.iconst (-1), 1) := by decide +kernel
theorem dX5_counterWord_43 : decode cX5_counterWord 43 = .ok (.if_icmp .ne 44, 3) := by decide +kernel
theorem dX5_counterWord_46 : decode cX5_counterWord 46 = .ok (.aload_n 0, 1) := by decide +kernel
theorem dX5_counterWord_47 : decode cX5_counterWord 47 = .ok (.ldc 186, 2) := by decide +kernel
theorem dX5_counterWord_49 : decode cX5_counterWord 49 = .ok (.invokevirtual 155, 3) := by decide +kernel
theorem dX5_counterWord_52 : decode cX5_counterWord 52 = .ok (.ifCond .eq 7, 3) := by decide +kernel
theorem dX5_counterWord_55 : decode cX5_counterWord 55 = .ok (.iconst 3, 1) := by decide +kernel
theorem dX5_counterWord_56 : decode cX5_counterWord 56 = .ok (.goto 30, 3) := by decide +kernel
theorem dX5_counterWord_59 : decode cX5_counterWord 59 = .ok (.aload_n 0, 1) := by decide +kernel
theorem dX5_counterWord_60 : decode cX5_counterWord 60 = .ok (.ldc 188, 2) := by decide +kernel
theorem dX5_counterWord_62 : decode cX5_counterWord 62 = .ok (.invokevirtual 155, 3) := by decide +kernel
theorem dX5_counterWord_65 : decode cX5_counterWord 65 = .ok (.ifCond .eq 7, 3) := by decide +kernel
theorem dX5_counterWord_68 : decode cX5_counterWord 68 = .ok (.iconst 4, 1) := by decide +kernel

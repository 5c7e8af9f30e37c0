theorem dL_boardedAt_14 : decode cL_boardedAt 14 = .ok (.ireturn, 1) := by decide +kernel
theorem dL_boardedAt_15 : decode cL_boardedAt 15 = .ok (.iconst 0, 1) := by decide +kernel
theorem dL_boardedAt_16 : decode cL_boardedAt 16 = .ok (.ireturn, 1) := by decide +kernel
theorem dL_leftAt_0 : decode cL_leftAt 0 = .ok (.aload_n 2, 1) := by decide +kernel
theorem dL_leftAt_1 : decode cL_leftAt 1 = .ok (.iconst 0, 1) := by decide +kernel
theorem dL_leftAt_2 : decode cL_leftAt 2 = .ok (.aload_n 0, 1) := by decide +kernel
theorem dL_leftAt_3 : decode cL_leftAt 3 = .ok (.iload_n 1, 1) := by decide +kernel
theorem dL_leftAt_4 : decode cL_leftAt 4 = .ok (.invokevirtual 39, 3) := by decide +kernel
theorem dL_leftAt_7 : decode cL_leftAt 7 = .ok (.i2l, 1) := by decide +kernel
theorem dL_leftAt_8 : decode cL_leftAt 8 = .ok (.lastore, 1) := by decide +kernel
theorem dL_leftAt_9 : decode cL_leftAt 9 = .ok (.goto 6, 3) := by decide +kernel
theorem dL_leftAt_12 : decode cL_leftAt 12 = .ok (.astore_n 3, 1) := by decide +kernel
theorem dL_leftAt_13 : decode cL_leftAt 13 = .ok (.iconst 1, 1) := by decide +kernel
theorem dL_leftAt_14 : decode cL_leftAt 14 = .ok (.ireturn, 1) := by decide +kernel
theorem dL_leftAt_15 : decode cL_leftAt 15 = .ok (.iconst 0, 1) := by decide +kernel
theorem dL_leftAt_16 : decode cL_leftAt 16 = .ok (.ireturn, 1) := by decide +kernel
theorem dL_waitOf_0 : decode cL_waitOf 0 = .ok (.aload_n 2, 1) := by decide +kernel
theorem dL_waitOf_1 : decode cL_waitOf 1 = .ok (.iconst 0, 1) := by decide +kernel
theorem dL_waitOf_2 : decode cL_waitOf 2 = .ok (.aload_n 0, 1) := by decide +kernel
theorem dL_waitOf_3 : decode cL_waitOf 3 = .ok (.iload_n 1, 1) := by decide +kernel
theorem dL_waitOf_4 : decode cL_waitOf 4 = .ok (.invokevirtual 42, 3) := by decide +kernel
theorem dL_waitOf_7 : decode cL_waitOf 7 = .ok (.i2l, 1) := by decide +kernel
theorem dL_waitOf_8 : decode cL_waitOf 8 = .ok (.lastore, 1) := by decide +kernel
theorem dL_waitOf_9 : decode cL_waitOf 9 = .ok (.goto 6, 3) := by decide +kernel
theorem dL_waitOf_12 : decode cL_waitOf 12 = .ok (.astore_n 3, 1) := by decide +kernel
theorem dL_waitOf_13 : decode cL_waitOf 13 = .ok (.iconst 1, 1) := by decide +kernel
theorem dL_waitOf_14 : decode cL_waitOf 14 = .ok (.ireturn, 1) := by decide +kernel
theorem dL_waitOf_15 : decode cL_waitOf 15 = .ok (.iconst 0, 1) := by decide +kernel
theorem dL_waitOf_16 : decode cL_waitOf 16 = .ok (.ireturn, 1) := by decide +kernel
theorem dL_rideOf_0 : decode cL_rideOf 0 = .ok (.aload_n 2, 1) := by decide +kernel
theorem dL_rideOf_1 : decode cL_rideOf 1 = .ok (.iconst 0, 1) := by decide +kernel
theorem dL_rideOf_2 : decode cL_rideOf 2 = .ok (.aload_n 0, 1) := by decide +kernel
theorem dL_rideOf_3 : decode cL_rideOf 3 = .ok (.iload_n 1, 1) := by decide +kernel
theorem dL_rideOf_4 : decode cL_rideOf 4 = .ok (.invokevirtual 45, 3) := by decide +kernel
theorem dL_rideOf_7 : decode cL_rideOf 7 = .ok (.i2l, 1) := by decide +kernel
theorem dL_rideOf_8 : decode cL_rideOf 8 = .ok (.lastore, 1) := by decide +kernel
theorem dL_rideOf_9 : decode cL_rideOf 9 = .ok (.goto 6, 3) := by decide +kernel
theorem dL_rideOf_12 : decode cL_rideOf 12 = .ok (.astore_n 3, 1) := by decide +kernel
theorem dL_rideOf_13 : decode cL_rideOf 13 = .ok (.iconst 1, 1) := by decide +kernel
theorem dL_rideOf_14 : decode cL_rideOf 14 = .ok (.ireturn, 1) := by decide +kernel
theorem dL_rideOf_15 : decode cL_rideOf 15 = .ok (.iconst 0, 1) := by decide +kernel
theorem dL_rideOf_16 : decode cL_rideOf 16 = .ok (.ireturn, 1) := by decide +kernel
theorem dL_detourOf_0 : decode cL_detourOf 0 = .ok (.aload_n 2, 1) := by decide +kernel
theorem dL_detourOf_1 : decode cL_detourOf 1 = .ok (.iconst 0, 1) := by decide +kernel
theorem dL_detourOf_2 : decode cL_detourOf 2 = .ok (.aload_n 0, 1) := by decide +kernel
theorem dL_detourOf_3 : decode cL_detourOf 3 = .ok (.iload_n 1, 1) := by decide +kernel
theorem dL_detourOf_4 : decode cL_detourOf 4 = .ok (.invokevirtual 48, 3) := by decide +kernel
theorem dL_detourOf_7 : decode cL_detourOf 7 = .ok (.i2l, 1) := by decide +kernel
theorem dL_detourOf_8 : decode cL_detourOf 8 = .ok (.lastore, 1) := by decide +kernel
theorem dL_detourOf_9 : decode cL_detourOf 9 = .ok (.goto 6, 3) := by decide +kernel
theorem dL_detourOf_12 : decode cL_detourOf 12 = .ok (.astore_n 3, 1) := by decide +kernel
theorem dL_detourOf_13 : decode cL_detourOf 13 = .ok (.iconst 1, 1) := by decide +kernel
theorem dL_detourOf_14 : decode cL_detourOf 14 = .ok (.ireturn, 1) := by decide +kernel
theorem dL_detourOf_15 : decode cL_detourOf 15 = .ok (.iconst 0, 1) := by decide +kernel
theorem dL_detourOf_16 : decode cL_detourOf 16 = .ok (.ireturn, 1) := by decide +kernel
theorem dL_countStatus_0 : decode cL_countStatus 0 = .ok (.aload_n 2, 1) := by decide +kernel
theorem dL_countStatus_1 : decode cL_countStatus 1 = .ok (.iconst 0, 1) := by decide +kernel
theorem dL_countStatus_2 : decode cL_countStatus 2 = .ok (.aload_n 0, 1) := by decide +kernel
theorem dL_countStatus_3 : decode cL_countStatus 3 = .ok (.iload_n 1, 1) := by decide +kernel
theorem dL_countStatus_4 : decode cL_countStatus 4 = .ok (.invokevirtual 51, 3) := by decide +kernel
theorem dL_countStatus_7 : decode cL_countStatus 7 = .ok (.i2l, 1) := by decide +kernel
theorem dL_countStatus_8 : decode cL_countStatus 8 = .ok (.lastore, 1) := by decide +kernel
theorem dL_countStatus_9 : decode cL_countStatus 9 = .ok (.goto 6, 3) := by decide +kernel
theorem dL_countStatus_12 : decode cL_countStatus 12 = .ok (.astore_n 3, 1) := by decide +kernel
theorem dL_countStatus_13 : decode cL_countStatus 13 = .ok (.iconst 1, 1) := by decide +kernel
theorem dL_countStatus_14 : decode cL_countStatus 14 = .ok (.ireturn, 1) := by decide +kernel
theorem dL_countStatus_15 : decode cL_countStatus 15 = .ok (.iconst 0, 1) := by decide +kernel
theorem dL_countStatus_16 : decode cL_countStatus 16 = .ok (.ireturn, 1) := by decide +kernel
theorem dL_waitingAt_0 : decode cL_waitingAt 0 = .ok (.aload_n 2, 1) := by decide +kernel
theorem dL_waitingAt_1 : decode cL_waitingAt 1 = .ok (.iconst 0, 1) := by decide +kernel
theorem dL_waitingAt_2 : decode cL_waitingAt 2 = .ok (.aload_n 0, 1) := by decide +kernel
theorem dL_waitingAt_3 : decode cL_waitingAt 3 = .ok (.iload_n 1, 1) := by decide +kernel
theorem dL_waitingAt_4 : decode cL_waitingAt 4 = .ok (.invokevirtual 54, 3) := by decide +kernel
theorem dL_waitingAt_7 : decode cL_waitingAt 7 = .ok (.i2l, 1) := by decide +kernel
theorem dL_waitingAt_8 : decode cL_waitingAt 8 = .ok (.lastore, 1) := by decide +kernel
theorem dL_waitingAt_9 : decode cL_waitingAt 9 = .ok (.goto 6, 3) := by decide +kernel
theorem dL_waitingAt_12 : decode cL_waitingAt 12 = .ok (.astore_n 3, 1) := by decide +kernel
theorem dL_waitingAt_13 : decode cL_waitingAt 13 = .ok (.iconst 1, 1) := by decide +kernel
theorem dL_waitingAt_14 : decode cL_waitingAt 14 = .ok (.ireturn, 1) := by decide +kernel
theorem dL_waitingAt_15 : decode cL_waitingAt 15 = .ok (.iconst 0, 1) := by decide +kernel
theorem dL_waitingAt_16 : decode cL_waitingAt 16 = .ok (.ireturn, 1) := by decide +kernel
theorem dL_queueAt_0 : decode cL_queueAt 0 = .ok (.aload_n 3, 1) := by decide +kernel
theorem dL_queueAt_1 : decode cL_queueAt 1 = .ok (.iconst 0, 1) := by decide +kernel
theorem dL_queueAt_2 : decode cL_queueAt 2 = .ok (.aload_n 0, 1) := by decide +kernel
theorem dL_queueAt_3 : decode cL_queueAt 3 = .ok (.iload_n 1, 1) := by decide +kernel
theorem dL_queueAt_4 : decode cL_queueAt 4 = .ok (.iload_n 2, 1) := by decide +kernel
theorem dL_queueAt_5 : decode cL_queueAt 5 = .ok (.invokevirtual 57, 3) := by decide +kernel
theorem dL_queueAt_8 : decode cL_queueAt 8 = .ok (.i2l, 1) := by decide +kernel
theorem dL_queueAt_9 : decode cL_queueAt 9 = .ok (.lastore, 1) := by decide +kernel
theorem dL_queueAt_10 : decode cL_queueAt 10 = .ok (.goto 7, 3) := by decide +kernel
theorem dL_queueAt_13 : decode cL_queueAt 13 = .ok (.astore 4, 2) := by decide +kernel
theorem dL_queueAt_15 : decode cL_queueAt 15 = .ok (.iconst 1, 1) := by decide +kernel
theorem dL_queueAt_16 : decode cL_queueAt 16 = .ok (.ireturn, 1) := by decide +kernel
theorem dL_queueAt_17 : decode cL_queueAt 17 = .ok (.iconst 0, 1) := by decide +kernel
theorem dL_queueAt_18 : decode cL_queueAt 18 = .ok (.ireturn, 1) := by decide +kernel
theorem dL_ridingTo_0 : decode cL_ridingTo 0 = .ok (.aload_n 2, 1) := by decide +kernel
theorem dL_ridingTo_1 : decode cL_ridingTo 1 = .ok (.iconst 0, 1) := by decide +kernel
theorem dL_ridingTo_2 : decode cL_ridingTo 2 = .ok (.aload_n 0, 1) := by decide +kernel
theorem dL_ridingTo_3 : decode cL_ridingTo 3 = .ok (.iload_n 1, 1) := by decide +kernel
theorem dL_ridingTo_4 : decode cL_ridingTo 4 = .ok (.invokevirtual 61, 3) := by decide +kernel
theorem dL_ridingTo_7 : decode cL_ridingTo 7 = .ok (.i2l, 1) := by decide +kernel
theorem dL_ridingTo_8 : decode cL_ridingTo 8 = .ok (.lastore, 1) := by decide +kernel
theorem dL_ridingTo_9 : decode cL_ridingTo 9 = .ok (.goto 6, 3) := by decide +kernel
theorem dL_ridingTo_12 : decode cL_ridingTo 12 = .ok (.astore_n 3, 1) := by decide +kernel
theorem dL_ridingTo_13 : decode cL_ridingTo 13 = .ok (.iconst 1, 1) := by decide +kernel
theorem dL_ridingTo_14 : decode cL_ridingTo 14 = .ok (.ireturn, 1) := by decide +kernel
theorem dL_ridingTo_15 : decode cL_ridingTo 15 = .ok (.iconst 0, 1) := by decide +kernel
theorem dL_ridingTo_16 : decode cL_ridingTo 16 = .ok (.ireturn, 1) := by decide +kernel
theorem dL_passengersBetween_0 : decode cL_passengersBetween 0 = .ok (.aload_n 3, 1) := by decide +kernel
theorem dL_passengersBetween_1 : decode cL_passengersBetween 1 = .ok (.iconst 0, 1) := by decide +kernel
theorem dL_passengersBetween_2 : decode cL_passengersBetween 2 = .ok (.aload_n 0, 1) := by decide +kernel
theorem dL_passengersBetween_3 : decode cL_passengersBetween 3 = .ok (.iload_n 1, 1) := by decide +kernel
theorem dL_passengersBetween_4 : decode cL_passengersBetween 4 = .ok (.iload_n 2, 1) := by decide +kernel
theorem dL_passengersBetween_5 : decode cL_passengersBetween 5 = .ok (.invokevirtual 64, 3) := by decide +kernel
theorem dL_passengersBetween_8 : decode cL_passengersBetween 8 = .ok (.i2l, 1) := by decide +kernel
theorem dL_passengersBetween_9 : decode cL_passengersBetween 9 = .ok (.lastore, 1) := by decide +kernel
theorem dL_passengersBetween_10 : decode cL_passengersBetween 10 = .ok (.goto 7, 3) := by decide +kernel
theorem dL_passengersBetween_13 : decode cL_passengersBetween 13 = .ok (.astore 4, 2) := by decide +kernel
theorem dL_passengersBetween_15 : decode cL_passengersBetween 15 = .ok (.iconst 1, 1) := by decide +kernel
theorem dL_passengersBetween_16 : decode cL_passengersBetween 16 = .ok (.ireturn, 1) := by decide +kernel
theorem dL_passengersBetween_17 : decode cL_passengersBetween 17 = .ok (.iconst 0, 1) := by decide +kernel
theorem dL_passengersBetween_18 : decode cL_passengersBetween 18 = .ok (.ireturn, 1) := by decide +kernel
theorem dL_ticksWithPolicy_0 : decode cL_ticksWithPolicy 0 = .ok (.aload_n 2, 1) := by decide +kernel
theorem dL_ticksWithPolicy_1 : decode cL_ticksWithPolicy 1 = .ok (.iconst 0, 1) := by decide +kernel
theorem dL_ticksWithPolicy_2 : decode cL_ticksWithPolicy 2 = .ok (.aload_n 0, 1) := by decide +kernel
theorem dL_ticksWithPolicy_3 : decode cL_ticksWithPolicy 3 = .ok (.iload_n 1, 1) := by decide +kernel
theorem dL_ticksWithPolicy_4 : decode cL_ticksWithPolicy 4 = .ok (.invokevirtual 67, 3) := by decide +kernel
theorem dL_ticksWithPolicy_7 : decode cL_ticksWithPolicy 7 = .ok (.i2l, 1) := by decide +kernel
theorem dL_ticksWithPolicy_8 : decode cL_ticksWithPolicy 8 = .ok (.lastore, 1) := by decide +kernel
theorem dL_ticksWithPolicy_9 : decode cL_ticksWithPolicy 9 = .ok (.goto 6, 3) := by decide +kernel
theorem dL_ticksWithPolicy_12 : decode cL_ticksWithPolicy 12 = .ok (.astore_n 3, 1) := by decide +kernel
theorem dL_ticksWithPolicy_13 : decode cL_ticksWithPolicy 13 = .ok (.iconst 1, 1) := by decide +kernel
theorem dL_ticksWithPolicy_14 : decode cL_ticksWithPolicy 14 = .ok (.ireturn, 1) := by decide +kernel
theorem dL_ticksWithPolicy_15 : decode cL_ticksWithPolicy 15 = .ok (.iconst 0, 1) := by decide +kernel
theorem dL_ticksWithPolicy_16 : decode cL_ticksWithPolicy 16 = .ok (.ireturn, 1) := by decide +kernel
theorem dL_waitWithPolicy_0 : decode cL_waitWithPolicy 0 = .ok (.aload_n 2, 1) := by decide +kernel
theorem dL_waitWithPolicy_1 : decode cL_waitWithPolicy 1 = .ok (.iconst 0, 1) := by decide +kernel
theorem dL_waitWithPolicy_2 : decode cL_waitWithPolicy 2 = .ok (.aload_n 0, 1) := by decide +kernel
theorem dL_waitWithPolicy_3 : decode cL_waitWithPolicy 3 = .ok (.iload_n 1, 1) := by decide +kernel
theorem dL_waitWithPolicy_4 : decode cL_waitWithPolicy 4 = .ok (.invokevirtual 70, 3) := by decide +kernel
theorem dL_waitWithPolicy_7 : decode cL_waitWithPolicy 7 = .ok (.i2l, 1) := by decide +kernel
theorem dL_waitWithPolicy_8 : decode cL_waitWithPolicy 8 = .ok (.lastore, 1) := by decide +kernel
theorem dL_waitWithPolicy_9 : decode cL_waitWithPolicy 9 = .ok (.goto 6, 3) := by decide +kernel
theorem dL_waitWithPolicy_12 : decode cL_waitWithPolicy 12 = .ok (.astore_n 3, 1) := by decide +kernel
theorem dL_waitWithPolicy_13 : decode cL_waitWithPolicy 13 = .ok (.iconst 1, 1) := by decide +kernel
theorem dL_waitWithPolicy_14 : decode cL_waitWithPolicy 14 = .ok (.ireturn, 1) := by decide +kernel
theorem dL_waitWithPolicy_15 : decode cL_waitWithPolicy 15 = .ok (.iconst 0, 1) := by decide +kernel
theorem dL_waitWithPolicy_16 : decode cL_waitWithPolicy 16 = .ok (.ireturn, 1) := by decide +kernel
theorem dL_longestWaitWithPolicy_0 : decode cL_longestWaitWithPolicy 0 = .ok (.aload_n 2, 1) := by decide +kernel
theorem dL_longestWaitWithPolicy_1 : decode cL_longestWaitWithPolicy 1 = .ok (.iconst 0, 1) := by decide +kernel
theorem dL_longestWaitWithPolicy_2 : decode cL_longestWaitWithPolicy 2 = .ok (.aload_n 0, 1) := by decide +kernel
theorem dL_longestWaitWithPolicy_3 : decode cL_longestWaitWithPolicy 3 = .ok (.iload_n 1, 1) := by decide +kernel
theorem dL_longestWaitWithPolicy_4 : decode cL_longestWaitWithPolicy 4 = .ok (.invokevirtual 73, 3) := by decide +kernel
theorem dL_longestWaitWithPolicy_7 : decode cL_longestWaitWithPolicy 7 = .ok (.i2l, 1) := by decide +kernel
theorem dL_longestWaitWithPolicy_8 : decode cL_longestWaitWithPolicy 8 = .ok (.lastore, 1) := by decide +kernel
theorem dL_longestWaitWithPolicy_9 : decode cL_longestWaitWithPolicy 9 = .ok (.goto 6, 3) := by decide +kernel
theorem dL_longestWaitWithPolicy_12 : decode cL_longestWaitWithPolicy 12 = .ok (.astore_n 3, 1) := by decide +kernel
theorem dL_longestWaitWithPolicy_13 : decode cL_longestWaitWithPolicy 13 = .ok (.iconst 1, 1) := by decide +kernel
theorem dL_longestWaitWithPolicy_14 : decode cL_longestWaitWithPolicy 14 = .ok (.ireturn, 1) := by decide +kernel
theorem dL_longestWaitWithPolicy_15 : decode cL_longestWaitWithPolicy 15 = .ok (.iconst 0, 1) := by decide +kernel
theorem dL_longestWaitWithPolicy_16 : decode cL_longestWaitWithPolicy 16 = .ok (.ireturn, 1) := by decide +kernel
theorem dL_ticksWithCapacity_0 : decode cL_ticksWithCapacity 0 = .ok (.aload_n 2, 1) := by decide +kernel
theorem dL_ticksWithCapacity_1 : decode cL_ticksWithCapacity 1 = .ok (.iconst 0, 1) := by decide +kernel
theorem dL_ticksWithCapacity_2 : decode cL_ticksWithCapacity 2 = .ok (.aload_n 0, 1) := by decide +kernel
theorem dL_ticksWithCapacity_3 : decode cL_ticksWithCapacity 3 = .ok (.iload_n 1, 1) := by decide +kernel
theorem dL_ticksWithCapacity_4 : decode cL_ticksWithCapacity 4 = .ok (.invokevirtual 76, 3) := by decide +kernel
theorem dL_ticksWithCapacity_7 : decode cL_ticksWithCapacity 7 = .ok (.i2l, 1) := by decide +kernel
theorem dL_ticksWithCapacity_8 : decode cL_ticksWithCapacity 8 = .ok (.lastore, 1) := by decide +kernel
theorem dL_ticksWithCapacity_9 : decode cL_ticksWithCapacity 9 = .ok (.goto 9, 3) := by decide +kernel
theorem dL_ticksWithCapacity_12 : decode cL_ticksWithCapacity 12 = .ok (.astore_n 3, 1) := by decide +kernel
theorem dL_ticksWithCapacity_13 : decode cL_ticksWithCapacity 13 = .ok (.iconst 1, 1) := by decide +kernel
theorem dL_ticksWithCapacity_14 : decode cL_ticksWithCapacity 14 = .ok (.ireturn, 1) := by decide +kernel
theorem dL_ticksWithCapacity_15 : decode cL_ticksWithCapacity 15 = .ok (.astore_n 3, 1) := by decide +kernel
theorem dL_ticksWithCapacity_16 : decode cL_ticksWithCapacity 16 = .ok (.iconst 2, 1) := by decide +kernel
theorem dL_ticksWithCapacity_17 : decode cL_ticksWithCapacity 17 = .ok (.ireturn, 1) := by decide +kernel
theorem dL_ticksWithCapacity_18 : decode cL_ticksWithCapacity 18 = .ok (.iconst 0, 1) := by decide +kernel
theorem dL_ticksWithCapacity_19 : decode cL_ticksWithCapacity 19 = .ok (.ireturn, 1) := by decide +kernel
theorem dL_expectedAt_0 : decode cL_expectedAt 0 = .ok (.aload_n 2, 1) := by decide +kernel
theorem dL_expectedAt_1 : decode cL_expectedAt 1 = .ok (.iconst 0, 1) := by decide +kernel
theorem dL_expectedAt_2 : decode cL_expectedAt 2 = .ok (.aload_n 0, 1) := by decide +kernel
theorem dL_expectedAt_3 : decode cL_expectedAt 3 = .ok (.iload_n 1, 1) := by decide +kernel
theorem dL_expectedAt_4 : decode cL_expectedAt 4 = .ok (.invokevirtual 81, 3) := by decide +kernel
theorem dL_expectedAt_7 : decode cL_expectedAt 7 = .ok (.i2l, 1) := by decide +kernel
theorem dL_expectedAt_8 : decode cL_expectedAt 8 = .ok (.lastore, 1) := by decide +kernel
theorem dL_expectedAt_9 : decode cL_expectedAt 9 = .ok (.goto 6, 3) := by decide +kernel
theorem dL_expectedAt_12 : decode cL_expectedAt 12 = .ok (.astore_n 3, 1) := by decide +kernel
theorem dL_expectedAt_13 : decode cL_expectedAt 13 = .ok (.iconst 1, 1) := by decide +kernel
theorem dL_expectedAt_14 : decode cL_expectedAt 14 = .ok (.ireturn, 1) := by decide +kernel
theorem dL_expectedAt_15 : decode cL_expectedAt 15 = .ok (.iconst 0, 1) := by decide +kernel
theorem dL_expectedAt_16 : decode cL_expectedAt 16 = .ok (.ireturn, 1) := by decide +kernel
theorem dL_addPassenger_0 : decode cL_addPassenger 0 = .ok (.aload 4, 2) := by decide +kernel
theorem dL_addPassenger_2 : decode cL_addPassenger 2 = .ok (.iconst 0, 1) := by decide +kernel
theorem dL_addPassenger_3 : decode cL_addPassenger 3 = .ok (.aload_n 0, 1) := by decide +kernel
theorem dL_addPassenger_4 : decode cL_addPassenger 4 = .ok (.iload_n 1, 1) := by decide +kernel
theorem dL_addPassenger_5 : decode cL_addPassenger 5 = .ok (.iload_n 2, 1) := by decide +kernel
theorem dL_addPassenger_6 : decode cL_addPassenger 6 = .ok (.iload_n 3, 1) := by decide +kernel
theorem dL_addPassenger_7 : decode cL_addPassenger 7 = .ok (.invokevirtual 84, 3) := by decide +kernel
theorem dL_addPassenger_10 : decode cL_addPassenger 10 = .ok (.i2l, 1) := by decide +kernel
theorem dL_addPassenger_11 : decode cL_addPassenger 11 = .ok (.lastore, 1) := by decide +kernel
theorem dL_addPassenger_12 : decode cL_addPassenger 12 = .ok (.goto 15, 3) := by decide +kernel
theorem dL_addPassenger_15 : decode cL_addPassenger 15 = .ok (.astore 5, 2) := by decide +kernel
theorem dL_addPassenger_17 : decode cL_addPassenger 17 = .ok (.iconst 1, 1) := by decide +kernel
theorem dL_addPassenger_18 : decode cL_addPassenger 18 = .ok (.ireturn, 1) := by decide +kernel
theorem dL_addPassenger_19 : decode cL_addPassenger 19 = .ok (.astore 5, 2) := by decide +kernel
theorem dL_addPassenger_21 : decode cL_addPassenger 21 = .ok (.iconst 2, 1) := by decide +kernel
theorem dL_addPassenger_22 : decode cL_addPassenger 22 = .ok (.ireturn, 1) := by decide +kernel
theorem dL_addPassenger_23 : decode cL_addPassenger 23 = .ok (.astore 5, 2) := by decide +kernel
theorem dL_addPassenger_25 : decode cL_addPassenger 25 = .ok (.iconst 3, 1) := by decide +kernel
theorem dL_addPassenger_26 : decode cL_addPassenger 26 = .ok (.ireturn, 1) := by decide +kernel
theorem dL_addPassenger_27 : decode cL_addPassenger 27 = .ok (.iconst 0, 1) := by decide +kernel
theorem dL_addPassenger_28 : decode cL_addPassenger 28 = .ok (.ireturn, 1) := by decide +kernel
theorem dL_run_0 : decode cL_run 0 = .ok (.aload_n 2, 1) := by decide +kernel
theorem dL_run_1 : decode cL_run 1 = .ok (.iconst 0, 1) := by decide +kernel
theorem dL_run_2 : decode cL_run 2 = .ok (.aload_n 0, 1) := by decide +kernel
theorem dL_run_3 : decode cL_run 3 = .ok (.iload_n 1, 1) := by decide +kernel
theorem dL_run_4 : decode cL_run 4 = .ok (.invokevirtual 88, 3) := by decide +kernel
theorem dL_run_7 : decode cL_run 7 = .ok (.i2l, 1) := by decide +kernel
theorem dL_run_8 : decode cL_run 8 = .ok (.lastore, 1) := by decide +kernel
theorem dL_run_9 : decode cL_run 9 = .ok (.goto 9, 3) := by decide +kernel
theorem dL_run_12 : decode cL_run 12 = .ok (.astore_n 3, 1) := by decide +kernel
theorem dL_run_13 : decode cL_run 13 = .ok (.iconst 1, 1) := by decide +kernel
theorem dL_run_14 : decode cL_run 14 = .ok (.ireturn, 1) := by decide +kernel
theorem dL_run_15 : decode cL_run 15 = .ok (.astore_n 3, 1) := by decide +kernel
theorem dL_run_16 : decode cL_run 16 = .ok (.iconst 2, 1) := by decide +kernel
theorem dL_run_17 : decode cL_run 17 = .ok (.ireturn, 1) := by decide +kernel
theorem dL_run_18 : decode cL_run 18 = .ok (.iconst 0, 1) := by decide +kernel
theorem dL_run_19 : decode cL_run 19 = .ok (.ireturn, 1) := by decide +kernel
theorem dL_setPolicy_0 : decode cL_setPolicy 0 = .ok (.aload_n 2, 1) := by decide +kernel
theorem dL_setPolicy_1 : decode cL_setPolicy 1 = .ok (.iconst 0, 1) := by decide +kernel
theorem dL_setPolicy_2 : decode cL_setPolicy 2 = .ok (.aload_n 0, 1) := by decide +kernel
theorem dL_setPolicy_3 : decode cL_setPolicy 3 = .ok (.iload_n 1, 1) := by decide +kernel
theorem dL_setPolicy_4 : decode cL_setPolicy 4 = .ok (.invokevirtual 91, 3) := by decide +kernel
theorem dL_setPolicy_7 : decode cL_setPolicy 7 = .ok (.i2l, 1) := by decide +kernel
theorem dL_setPolicy_8 : decode cL_setPolicy 8 = .ok (.lastore, 1) := by decide +kernel
theorem dL_setPolicy_9 : decode cL_setPolicy 9 = .ok (.goto 6, 3) := by decide +kernel
theorem dL_setPolicy_12 : decode cL_setPolicy 12 = .ok (.astore_n 3, 1) := by decide +kernel
theorem dL_setPolicy_13 : decode cL_setPolicy 13 = .ok (.iconst 1, 1) := by decide +kernel
theorem dL_setPolicy_14 : decode cL_setPolicy 14 = .ok (.ireturn, 1) := by decide +kernel
theorem dL_setPolicy_15 : decode cL_setPolicy 15 = .ok (.iconst 0, 1) := by decide +kernel
theorem dL_setPolicy_16 : decode cL_setPolicy 16 = .ok (.ireturn, 1) := by decide +kernel
theorem dL_setCapacity_0 : decode cL_setCapacity 0 = .ok (.aload_n 2, 1) := by decide +kernel
theorem dL_setCapacity_1 : decode cL_setCapacity 1 = .ok (.iconst 0, 1) := by decide +kernel
theorem dL_setCapacity_2 : decode cL_setCapacity 2 = .ok (.aload_n 0, 1) := by decide +kernel
theorem dL_setCapacity_3 : decode cL_setCapacity 3 = .ok (.iload_n 1, 1) := by decide +kernel
theorem dL_setCapacity_4 : decode cL_setCapacity 4 = .ok (.invokevirtual 94, 3) := by decide +kernel
theorem dL_setCapacity_7 : decode cL_setCapacity 7 = .ok (.i2l, 1) := by decide +kernel
theorem dL_setCapacity_8 : decode cL_setCapacity 8 = .ok (.lastore, 1) := by decide +kernel
theorem dL_setCapacity_9 : decode cL_setCapacity 9 = .ok (.goto 9, 3) := by decide +kernel
theorem dL_setCapacity_12 : decode cL_setCapacity 12 = .ok (.astore_n 3, 1) := by decide +kernel
theorem dL_setCapacity_13 : decode cL_setCapacity 13 = .ok (.iconst 1, 1) := by decide +kernel
theorem dL_setCapacity_14 : decode cL_setCapacity 14 = .ok (.ireturn, 1) := by decide +kernel
theorem dL_setCapacity_15 : decode cL_setCapacity 15 = .ok (.astore_n 3, 1) := by decide +kernel
theorem dL_setCapacity_16 : decode cL_setCapacity 16 = .ok (.iconst 2, 1) := by decide +kernel
theorem dL_setCapacity_17 : decode cL_setCapacity 17 = .ok (.ireturn, 1) := by decide +kernel
theorem dL_setCapacity_18 : decode cL_setCapacity 18 = .ok (.iconst 0, 1) := by decide +kernel
theorem dL_setCapacity_19 : decode cL_setCapacity 19 = .ok (.ireturn, 1) := by decide +kernel
theorem dL_undo_0 : decode cL_undo 0 = .ok (.aload_n 1, 1) := by decide +kernel
theorem dL_undo_1 : decode cL_undo 1 = .ok (.iconst 0, 1) := by decide +kernel
theorem dL_undo_2 : decode cL_undo 2 = .ok (.aload_n 0, 1) := by decide +kernel
theorem dL_undo_3 : decode cL_undo 3 = .ok (.invokevirtual 97, 3) := by decide +kernel
theorem dL_undo_6 : decode cL_undo 6 = .ok (.i2l, 1) := by decide +kernel
theorem dL_undo_7 : decode cL_undo 7 = .ok (.lastore, 1) := by decide +kernel
theorem dL_undo_8 : decode cL_undo 8 = .ok (.goto 6, 3) := by decide +kernel
theorem dL_undo_11 : decode cL_undo 11 = .ok (.astore_n 2, 1) := by decide +kernel
theorem dL_undo_12 : decode cL_undo 12 = .ok (.iconst 1, 1) := by decide +kernel
theorem dL_undo_13 : decode cL_undo 13 = .ok (.ireturn, 1) := by decide +kernel
theorem dL_undo_14 : decode cL_undo 14 = .ok (.iconst 0, 1) := by decide +kernel
theorem dL_undo_15 : decode cL_undo 15 = .ok (.ireturn, 1) := by decide +kernel
theorem dL_save_0 : decode cL_save 0 = .ok (.aload_n 2, 1) := by decide +kernel
theorem dL_save_1 : decode cL_save 1 = .ok (.iconst 0, 1) := by decide +kernel
theorem dL_save_2 : decode cL_save 2 = .ok (.aload_n 0, 1) := by decide +kernel
theorem dL_save_3 : decode cL_save 3 = .ok (.iload_n 1, 1) := by decide +kernel
theorem dL_save_4 : decode cL_save 4 = .ok (.invokevirtual 100, 3) := by decide +kernel
theorem dL_save_7 : decode cL_save 7 = .ok (.ifCond .eq 7, 3) := by decide +kernel
theorem dL_save_10 : decode cL_save 10 = .ok (.lconst 1, 1) := by decide +kernel
theorem dL_save_11 : decode cL_save 11 = .ok (.goto 4, 3) := by decide +kernel
theorem dL_save_14 : decode cL_save 14 = .ok (.lconst 0, 1) := by decide +kernel
theorem dL_save_15 : decode cL_save 15 = .ok (.lastore, 1) := by decide +kernel
theorem dL_save_16 : decode cL_save 16 = .ok (.goto 6, 3) := by decide +kernel
theorem dL_save_19 : decode cL_save 19 = .ok (.astore_n 3, 1) := by decide +kernel
theorem dL_save_20 : decode cL_save 20 = .ok (.iconst 1, 1) := by decide +kernel
theorem dL_save_21 : decode cL_save 21 = .ok (.ireturn, 1) := by decide +kernel
theorem dL_save_22 : decode cL_save 22 = .ok (.iconst 0, 1) := by decide +kernel
theorem dL_save_23 : decode cL_save 23 = .ok (.ireturn, 1) := by decide +kernel
theorem dL_restore_0 : decode cL_restore 0 = .ok (.aload_n 2, 1) := by decide +kernel
theorem dL_restore_1 : decode cL_restore 1 = .ok (.iconst 0, 1) := by decide +kernel
theorem dL_restore_2 : decode cL_restore 2 = .ok (.aload_n 0, 1) := by decide +kernel
theorem dL_restore_3 : decode cL_restore 3 = .ok (.iload_n 1, 1) := by decide +kernel
theorem dL_restore_4 : decode cL_restore 4 = .ok (.invokevirtual 104, 3) := by decide +kernel
theorem dL_restore_7 : decode cL_restore 7 = .ok (.i2l, 1) := by decide +kernel
theorem dL_restore_8 : decode cL_restore 8 = .ok (.lastore, 1) := by decide +kernel
theorem dL_restore_9 : decode cL_restore 9 = .ok (.goto 9, 3) := by decide +kernel
theorem dL_restore_12 : decode cL_restore 12 = .ok (.astore_n 3, 1) := by decide +kernel
theorem dL_restore_13 : decode cL_restore 13 = .ok (.iconst 1, 1) := by decide +kernel
theorem dL_restore_14 : decode cL_restore 14 = .ok (.ireturn, 1) := by decide +kernel
theorem dL_restore_15 : decode cL_restore 15 = .ok (.astore_n 3, 1) := by decide +kernel
theorem dL_restore_16 : decode cL_restore 16 = .ok (.iconst 2, 1) := by decide +kernel
theorem dL_restore_17 : decode cL_restore 17 = .ok (.ireturn, 1) := by decide +kernel
theorem dL_restore_18 : decode cL_restore 18 = .ok (.iconst 0, 1) := by decide +kernel
theorem dL_restore_19 : decode cL_restore 19 = .ok (.ireturn, 1) := by decide +kernel
theorem dL_law_0 : decode cL_law 0 = .ok (.new 8, 3) := by decide +kernel
theorem dL_law_3 : decode cL_law 3 = .ok (.dup, 1) := by decide +kernel
theorem dL_law_4 : decode cL_law 4 = .ok (.invokespecial 107, 3) := by decide +kernel
theorem dL_law_7 : decode cL_law 7 = .ok (.astore_n 1, 1) := by decide +kernel
theorem dL_law_8 : decode cL_law 8 = .ok (.new 108, 3) := by decide +kernel
theorem dL_law_11 : decode cL_law 11 = .ok (.dup, 1) := by decide +kernel
theorem dL_law_12 : decode cL_law 12 = .ok (.invokespecial 110, 3) := by decide +kernel
theorem dL_law_15 : decode cL_law 15 = .ok (.astore_n 2, 1) := by decide +kernel
theorem dL_law_16 : decode cL_law 16 = .ok (.iconst 1, 1) := by decide +kernel
theorem dL_law_17 : decode cL_law 17 = .ok (.newarray .long, 2) := by decide +kernel
theorem dL_law_19 : decode cL_law 19 = .ok (.astore_n 3, 1) := by decide +kernel
theorem dL_law_20 : decode cL_law 20 = .ok (.iconst 0, 1) := by decide +kernel
theorem dL_law_21 : decode cL_law 21 = .ok (.istore 4, 2) := by decide +kernel
theorem dL_law_23 : decode cL_law 23 = .ok (.iload 4, 2) := by decide +kernel
theorem dL_law_25 : decode cL_law 25 = .ok (.aload_n 0, 1) := by decide +kernel
theorem dL_law_26 : decode cL_law 26 = .ok (.arraylength, 1) := by decide +kernel
theorem dL_law_27 : decode cL_law 27 = .ok (.bipush 6, 2) := by decide +kernel
theorem dL_law_29 : decode cL_law 29 = .ok (.isub, 1) := by decide +kernel
theorem dL_law_30 : decode cL_law 30 = .ok (.if_icmp .gt 2528, 3) := by decide +kernel
theorem dL_law_33 : decode cL_law 33 = .ok (.aload_n 0, 1) := by decide +kernel
theorem dL_law_34 : decode cL_law 34 = .ok (.iload 4, 2) := by decide +kernel
theorem dL_law_36 : decode cL_law 36 = .ok (.iaload, 1) := by decide +kernel
theorem dL_law_37 : decode cL_law 37 = .ok (.bipush 63, 2) := by decide +kernel
theorem dL_law_39 : decode cL_law 39 = .ok (.iand, 1) := by decide +kernel
theorem dL_law_40 : decode cL_law 40 = .ok (.tableswitch 2512 0 63 #[272, 345, 370, 414, 458, 471, 484, 497, 510, 523, 536, 549, 562, 575, 588, 644, 657, 670, 683, 696, 709, 765, 821, 877, 933, 989, 1045, 1101, 1157, 1213, 1269, 1325, 1393, 1406, 1462, 1475, 1543, 1556, 1569, 1582, 1595, 1638, 1651, 1664, 1705, 1718, 1731, 1787, 1843, 1899, 1912, 1968, 2024, 2104, 2160, 2173, 2229, 2285, 2329, 2342, 2405, 2461, 2474, 2487], 272) := by decide +kernel
theorem dL_law_312 : decode cL_law 312 = .ok (.aload_n 1, 1) := by decide +kernel
theorem dL_law_313 : decode cL_law 313 = .ok (.aload_n 0, 1) := by decide +kernel
theorem dL_law_314 : decode cL_law 314 = .ok (.iload 4, 2) := by decide +kernel
theorem dL_law_316 : decode cL_law 316 = .ok (.iconst 1, 1) := by decide +kernel
theorem dL_law_317 : decode cL_law 317 = .ok (.iadd, 1) := by decide +kernel
theorem dL_law_318 : decode cL_law 318 = .ok (.iaload, 1) := by decide +kernel
theorem dL_law_319 : decode cL_law 319 = .ok (.aload_n 0, 1) := by decide +kernel
theorem dL_law_320 : decode cL_law 320 = .ok (.iload 4, 2) := by decide +kernel
theorem dL_law_322 : decode cL_law 322 = .ok (.iconst 2, 1) := by decide +kernel
theorem dL_law_323 : decode cL_law 323 = .ok (.iadd, 1) := by decide +kernel
theorem dL_law_324 : decode cL_law 324 = .ok (.iaload, 1) := by decide +kernel
theorem dL_law_325 : decode cL_law 325 = .ok (.aload_n 0, 1) := by decide +kernel
theorem dL_law_326 : decode cL_law 326 = .ok (.iload 4, 2) := by decide +kernel
theorem dL_law_328 : decode cL_law 328 = .ok (.iconst 3, 1) := by decide +kernel
theorem dL_law_329 : decode cL_law 329 = .ok (.iadd, 1) := by decide +kernel
theorem dL_law_330 : decode cL_law 330 = .ok (.iaload, 1) := by decide +kernel
theorem dL_law_331 : decode cL_law 331 = .ok (.aload_n 0, 1) := by decide +kernel
theorem dL_law_332 : decode cL_law 332 = .ok (.iload 4, 2) := by decide +kernel
theorem dL_law_334 : decode cL_law 334 = .ok (.iconst 4, 1) := by decide +kernel
theorem dL_law_335 : decode cL_law 335 = .ok (.iadd, 1) := by decide +kernel
theorem dL_law_336 : decode cL_law 336 = .ok (.iaload, 1) := by decide +kernel
theorem dL_law_337 : decode cL_law 337 = .ok (.aload_n 0, 1) := by decide +kernel
theorem dL_law_338 : decode cL_law 338 = .ok (.iload 4, 2) := by decide +kernel
theorem dL_law_340 : decode cL_law 340 = .ok (.iconst 5, 1) := by decide +kernel
theorem dL_law_341 : decode cL_law 341 = .ok (.iadd, 1) := by decide +kernel
theorem dL_law_342 : decode cL_law 342 = .ok (.iaload, 1) := by decide +kernel
theorem dL_law_343 : decode cL_law 343 = .ok (.invokevirtual 111, 3) := by decide +kernel
theorem dL_law_346 : decode cL_law 346 = .ok (.aload_n 2, 1) := by decide +kernel
theorem dL_law_347 : decode cL_law 347 = .ok (.aload_n 0, 1) := by decide +kernel
theorem dL_law_348 : decode cL_law 348 = .ok (.iload 4, 2) := by decide +kernel
theorem dL_law_350 : decode cL_law 350 = .ok (.iconst 1, 1) := by decide +kernel
theorem dL_law_351 : decode cL_law 351 = .ok (.iadd, 1) := by decide +kernel
theorem dL_law_352 : decode cL_law 352 = .ok (.iaload, 1) := by decide +kernel
theorem dL_law_353 : decode cL_law 353 = .ok (.aload_n 0, 1) := by decide +kernel
theorem dL_law_354 : decode cL_law 354 = .ok (.iload 4, 2) := by decide +kernel
theorem dL_law_356 : decode cL_law 356 = .ok (.iconst 2, 1) := by decide +kernel
theorem dL_law_357 : decode cL_law 357 = .ok (.iadd, 1) := by decide +kernel
theorem dL_law_358 : decode cL_law 358 = .ok (.iaload, 1) := by decide +kernel
theorem dL_law_359 : decode cL_law 359 = .ok (.aload_n 0, 1) := by decide +kernel
theorem dL_law_360 : decode cL_law 360 = .ok (.iload 4, 2) := by decide +kernel
theorem dL_law_362 : decode cL_law 362 = .ok (.iconst 3, 1) := by decide +kernel
theorem dL_law_363 : decode cL_law 363 = .ok (.iadd, 1) := by decide +kernel
theorem dL_law_364 : decode cL_law 364 = .ok (.iaload, 1) := by decide +kernel
theorem dL_law_365 : decode cL_law 365 = .ok (.aload_n 0, 1) := by decide +kernel
theorem dL_law_366 : decode cL_law 366 = .ok (.iload 4, 2) := by decide +kernel
theorem dL_law_368 : decode cL_law 368 = .ok (.iconst 4, 1) := by decide +kernel
theorem dL_law_369 : decode cL_law 369 = .ok (.iadd, 1) := by decide +kernel
theorem dL_law_370 : decode cL_law 370 = .ok (.iaload, 1) := by decide +kernel
theorem dL_law_371 : decode cL_law 371 = .ok (.aload_n 0, 1) := by decide +kernel
theorem dL_law_372 : decode cL_law 372 = .ok (.iload 4, 2) := by decide +kernel
theorem dL_law_374 : decode cL_law 374 = .ok (.iconst 5, 1) := by decide +kernel
theorem dL_law_375 : decode cL_law 375 = .ok (.iadd, 1) := by decide +kernel
theorem dL_law_376 : decode cL_law 376 = .ok (.iaload, 1) := by decide +kernel
theorem dL_law_377 : decode cL_law 377 = .ok (.invokevirtual 115, 3) := by decide +kernel
theorem dL_law_380 : decode cL_law 380 = .ok (.if_icmp .eq 2172, 3) := by decide +kernel
theorem dL_law_383 : decode cL_law 383 = .ok (.iconst 0, 1) := by decide +kernel
theorem dL_law_384 : decode cL_law 384 = .ok (.ireturn, 1) := by decide +kernel
theorem dL_law_385 : decode cL_law 385 = .ok (.aload_n 1, 1) := by decide +kernel
theorem dL_law_386 : decode cL_law 386 = .ok (.aload_n 0, 1) := by decide +kernel
theorem dL_law_387 : decode cL_law 387 = .ok (.iload 4, 2) := by decide +kernel
theorem dL_law_389 : decode cL_law 389 = .ok (.iconst 1, 1) := by decide +kernel
theorem dL_law_390 : decode cL_law 390 = .ok (.iadd, 1) := by decide +kernel
theorem dL_law_391 : decode cL_law 391 = .ok (.iaload, 1) := by decide +kernel
theorem dL_law_392 : decode cL_law 392 = .ok (.invokevirtual 116, 3) := by decide +kernel
theorem dL_law_395 : decode cL_law 395 = .ok (.aload_n 2, 1) := by decide +kernel
theorem dL_law_396 : decode cL_law 396 = .ok (.aload_n 0, 1) := by decide +kernel
theorem dL_law_397 : decode cL_law 397 = .ok (.iload 4, 2) := by decide +kernel
theorem dL_law_399 : decode cL_law 399 = .ok (.iconst 1, 1) := by decide +kernel
theorem dL_law_400 : decode cL_law 400 = .ok (.iadd, 1) := by decide +kernel
theorem dL_law_401 : decode cL_law 401 = .ok (.iaload, 1) := by decide +kernel
theorem dL_law_402 : decode cL_law 402 = .ok (.invokevirtual 119, 3) := by decide +kernel
theorem dL_law_405 : decode cL_law 405 = .ok (.if_icmp .eq 2147, 3) := by decide +kernel
theorem dL_law_408 : decode cL_law 408 = .ok (.iconst 0, 1) := by decide +kernel
theorem dL_law_409 : decode cL_law 409 = .ok (.ireturn, 1) := by decide +kernel
theorem dL_law_410 : decode cL_law 410 = .ok (.aload_n 1, 1) := by decide +kernel
theorem dL_law_411 : decode cL_law 411 = .ok (.aload_n 3, 1) := by decide +kernel
theorem dL_law_412 : decode cL_law 412 = .ok (.invokestatic 120, 3) := by decide +kernel
theorem dL_law_415 : decode cL_law 415 = .ok (.istore 5, 2) := by decide +kernel
theorem dL_law_417 : decode cL_law 417 = .ok (.aload_n 2, 1) := by decide +kernel
theorem dL_law_418 : decode cL_law 418 = .ok (.invokevirtual 125, 3) := by decide +kernel
theorem dL_law_421 : decode cL_law 421 = .ok (.istore 6, 2) := by decide +kernel
theorem dL_law_423 : decode cL_law 423 = .ok (.aload_n 2, 1) := by decide +kernel
theorem dL_law_424 : decode cL_law 424 = .ok (.invokevirtual 126, 3) := by decide +kernel
theorem dL_law_427 : decode cL_law 427 = .ok (.iload 5, 2) := by decide +kernel
theorem dL_law_429 : decode cL_law 429 = .ok (.if_icmp .eq 5, 3) := by decide +kernel
theorem dL_law_432 : decode cL_law 432 = .ok (.iconst 0, 1) := by decide +kernel
theorem dL_law_433 : decode cL_law 433 = .ok (.ireturn, 1) := by decide +kernel
theorem dL_law_434 : decode cL_law 434 = .ok (.iload 5, 2) := by decide +kernel
theorem dL_law_436 : decode cL_law 436 = .ok (.ifCond .ne 15, 3) := by decide +kernel
theorem dL_law_439 : decode cL_law 439 = .ok (.aload_n 3, 1) := by decide +kernel
theorem dL_law_440 : decode cL_law 440 = .ok (.iconst 0, 1) := by decide +kernel
theorem dL_law_441 : decode cL_law 441 = .ok (.laload, 1) := by decide +kernel
theorem dL_law_442 : decode cL_law 442 = .ok (.iload 6, 2) := by decide +kernel
theorem dL_law_444 : decode cL_law 444 = .ok (.i2l, 1) := by decide +kernel
theorem dL_law_445 : decode cL_law 445 = .ok (.lcmp, 1) := by decide +kernel
theorem dL_law_446 : decode cL_law 446 = .ok (.ifCond .eq 5, 3) := by decide +kernel
theorem dL_law_449 : decode cL_law 449 = .ok (.iconst 0, 1) := by decide +kernel
theorem dL_law_450 : decode cL_law 450 = .ok (.ireturn, 1) := by decide +kernel
theorem dL_law_451 : decode cL_law 451 = .ok (.goto 2101, 3) := by decide +kernel
theorem dL_law_454 : decode cL_law 454 = .ok (.aload_n 1, 1) := by decide +kernel
theorem dL_law_455 : decode cL_law 455 = .ok (.aload_n 3, 1) := by decide +kernel
theorem dL_law_456 : decode cL_law 456 = .ok (.invokestatic 129, 3) := by decide +kernel
theorem dL_law_459 : decode cL_law 459 = .ok (.istore 5, 2) := by decide +kernel
theorem dL_law_461 : decode cL_law 461 = .ok (.aload_n 2, 1) := by decide +kernel
theorem dL_law_462 : decode cL_law 462 = .ok (.invokevirtual 131, 3) := by decide +kernel
theorem dL_law_465 : decode cL_law 465 = .ok (.istore 6, 2) := by decide +kernel
theorem dL_law_467 : decode cL_law 467 = .ok (.aload_n 2, 1) := by decide +kernel
theorem dL_law_468 : decode cL_law 468 = .ok (.invokevirtual 126, 3) := by decide +kernel
theorem dL_law_471 : decode cL_law 471 = .ok (.iload 5, 2) := by decide +kernel
theorem dL_law_473 : decode cL_law 473 = .ok (.if_icmp .eq 5, 3) := by decide +kernel
theorem dL_law_476 : decode cL_law 476 = .ok (.iconst 0, 1) := by decide +kernel
theorem dL_law_477 : decode cL_law 477 = .ok (.ireturn, 1) := by decide +kernel
theorem dL_law_478 : decode cL_law 478 = .ok (.iload 5, 2) := by decide +kernel
theorem dL_law_480 : decode cL_law 480 = .ok (.ifCond .ne 15, 3) := by decide +kernel
theorem dL_law_483 : decode cL_law 483 = .ok (.aload_n 3, 1) := by decide +kernel
theorem dL_law_484 : decode cL_law 484 = .ok (.iconst 0, 1) := by decide +kernel
theorem dL_law_485 : decode cL_law 485 = .ok (.laload, 1) := by decide +kernel
theorem dL_law_486 : decode cL_law 486 = .ok (.iload 6, 2) := by decide +kernel
theorem dL_law_488 : decode cL_law 488 = .ok (.i2l, 1) := by decide +kernel
theorem dL_law_489 : decode cL_law 489 = .ok (.lcmp, 1) := by decide +kernel
theorem dL_law_490 : decode cL_law 490 = .ok (.ifCond .eq 5, 3) := by decide +kernel
theorem dL_law_493 : decode cL_law 493 = .ok (.iconst 0, 1) := by decide +kernel
theorem dL_law_494 : decode cL_law 494 = .ok (.ireturn, 1) := by decide +kernel
theorem dL_law_495 : decode cL_law 495 = .ok (.goto 2057, 3) := by decide +kernel
theorem dL_law_498 : decode cL_law 498 = .ok (.aload_n 1, 1) := by decide +kernel
theorem dL_law_499 : decode cL_law 499 = .ok (.invokevirtual 132, 3) := by decide +kernel
theorem dL_law_502 : decode cL_law 502 = .ok (.aload_n 2, 1) := by decide +kernel
theorem dL_law_503 : decode cL_law 503 = .ok (.invokevirtual 135, 3) := by decide +kernel
theorem dL_law_506 : decode cL_law 506 = .ok (.if_icmp .eq 2046, 3) := by decide +kernel
theorem dL_law_509 : decode cL_law 509 = .ok (.iconst 0, 1) := by decide +kernel
theorem dL_law_510 : decode cL_law 510 = .ok (.ireturn, 1) := by decide +kernel
theorem dL_law_511 : decode cL_law 511 = .ok (.aload_n 1, 1) := by decide +kernel
theorem dL_law_512 : decode cL_law 512 = .ok (.invokevirtual 136, 3) := by decide +kernel
theorem dL_law_515 : decode cL_law 515 = .ok (.aload_n 2, 1) := by decide +kernel
theorem dL_law_516 : decode cL_law 516 = .ok (.invokevirtual 139, 3) := by decide +kernel
theorem dL_law_519 : decode cL_law 519 = .ok (.if_icmp .eq 2033, 3) := by decide +kernel
theorem dL_law_522 : decode cL_law 522 = .ok (.iconst 0, 1) := by decide +kernel
theorem dL_law_523 : decode cL_law 523 = .ok (.ireturn, 1) := by decide +kernel
theorem dL_law_524 : decode cL_law 524 = .ok (.aload_n 1, 1) := by decide +kernel
theorem dL_law_525 : decode cL_law 525 = .ok (.invokevirtual 140, 3) := by decide +kernel
theorem dL_law_528 : decode cL_law 528 = .ok (.aload_n 2, 1) := by decide +kernel
theorem dL_law_529 : decode cL_law 529 = .ok (.invokevirtual 143, 3) := by decide +kernel
theorem dL_law_532 : decode cL_law 532 = .ok (.if_icmp .eq 2020, 3) := by decide +kernel
theorem dL_law_535 : decode cL_law 535 = .ok (.iconst 0, 1) := by decide +kernel
theorem dL_law_536 : decode cL_law 536 = .ok (.ireturn, 1) := by decide +kernel
theorem dL_law_537 : decode cL_law 537 = .ok (.aload_n 1, 1) := by decide +kernel
theorem dL_law_538 : decode cL_law 538 = .ok (.invokevirtual 144, 3) := by decide +kernel
theorem dL_law_541 : decode cL_law 541 = .ok (.aload_n 2, 1) := by decide +kernel
theorem dL_law_542 : decode cL_law 542 = .ok (.invokevirtual 147, 3) := by decide +kernel
theorem dL_law_545 : decode cL_law 545 = .ok (.if_icmp .eq 2007, 3) := by decide +kernel
theorem dL_law_548 : decode cL_law 548 = .ok (.iconst 0, 1) := by decide +kernel
theorem dL_law_549 : decode cL_law 549 = .ok (.ireturn, 1) := by decide +kernel
theorem dL_law_550 : decode cL_law 550 = .ok (.aload_n 1, 1) := by decide +kernel
theorem dL_law_551 : decode cL_law 551 = .ok (.invokevirtual 148, 3) := by decide +kernel
theorem dL_law_554 : decode cL_law 554 = .ok (.aload_n 2, 1) := by decide +kernel
theorem dL_law_555 : decode cL_law 555 = .ok (.invokevirtual 151, 3) := by decide +kernel
theorem dL_law_558 : decode cL_law 558 = .ok (.if_icmp .eq 1994, 3) := by decide +kernel
theorem dL_law_561 : decode cL_law 561 = .ok (.iconst 0, 1) := by decide +kernel
theorem dL_law_562 : decode cL_law 562 = .ok (.ireturn, 1) := by decide +kernel
theorem dL_law_563 : decode cL_law 563 = .ok (.aload_n 1, 1) := by decide +kernel
theorem dL_law_564 : decode cL_law 564 = .ok (.invokevirtual 152, 3) := by decide +kernel
theorem dL_law_567 : decode cL_law 567 = .ok (.aload_n 2, 1) := by decide +kernel
theorem dL_law_568 : decode cL_law 568 = .ok (.invokevirtual 155, 3) := by decide +kernel
theorem dL_law_571 : decode cL_law 571 = .ok (.if_icmp .eq 1981, 3) := by decide +kernel
theorem dL_law_574 : decode cL_law 574 = .ok (.iconst 0, 1) := by decide +kernel
theorem dL_law_575 : decode cL_law 575 = .ok (.ireturn, 1) := by decide +kernel
theorem dL_law_576 : decode cL_law 576 = .ok (.aload_n 1, 1) := by decide +kernel
theorem dL_law_577 : decode cL_law 577 = .ok (.invokevirtual 156, 3) := by decide +kernel
theorem dL_law_580 : decode cL_law 580 = .ok (.aload_n 2, 1) := by decide +kernel
theorem dL_law_581 : decode cL_law 581 = .ok (.invokevirtual 159, 3) := by decide +kernel
theorem dL_law_584 : decode cL_law 584 = .ok (.if_icmp .eq 1968, 3) := by decide +kernel
theorem dL_law_587 : decode cL_law 587 = .ok (.iconst 0, 1) := by decide +kernel
theorem dL_law_588 : decode cL_law 588 = .ok (.ireturn, 1) := by decide +kernel
theorem dL_law_589 : decode cL_law 589 = .ok (.aload_n 1, 1) := by decide +kernel
theorem dL_law_590 : decode cL_law 590 = .ok (.invokevirtual 160, 3) := by decide +kernel
theorem dL_law_593 : decode cL_law 593 = .ok (.aload_n 2, 1) := by decide +kernel
theorem dL_law_594 : decode cL_law 594 = .ok (.invokevirtual 164, 3) := by decide +kernel
theorem dL_law_597 : decode cL_law 597 = .ok (.if_icmp .eq 1955, 3) := by decide +kernel
theorem dL_law_600 : decode cL_law 600 = .ok (.iconst 0, 1) := by decide +kernel
theorem dL_law_601 : decode cL_law 601 = .ok (.ireturn, 1) := by decide +kernel
theorem dL_law_602 : decode cL_law 602 = .ok (.aload_n 1, 1) := by decide +kernel
theorem dL_law_603 : decode cL_law 603 = .ok (.invokevirtual 165, 3) := by decide +kernel
theorem dL_law_606 : decode cL_law 606 = .ok (.aload_n 2, 1) := by decide +kernel
theorem dL_law_607 : decode cL_law 607 = .ok (.invokevirtual 168, 3) := by decide +kernel
theorem dL_law_610 : decode cL_law 610 = .ok (.if_icmp .eq 1942, 3) := by decide +kernel
theorem dL_law_613 : decode cL_law 613 = .ok (.iconst 0, 1) := by decide +kernel
theorem dL_law_614 : decode cL_law 614 = .ok (.ireturn, 1) := by decide +kernel
theorem dL_law_615 : decode cL_law 615 = .ok (.aload_n 1, 1) := by decide +kernel
theorem dL_law_616 : decode cL_law 616 = .ok (.invokevirtual 169, 3) := by decide +kernel
theorem dL_law_619 : decode cL_law 619 = .ok (.aload_n 2, 1) := by decide +kernel
theorem dL_law_620 : decode cL_law 620 = .ok (.invokevirtual 172, 3) := by decide +kernel
theorem dL_law_623 : decode cL_law 623 = .ok (.if_icmp .eq 1929, 3) := by decide +kernel
theorem dL_law_626 : decode cL_law 626 = .ok (.iconst 0, 1) := by decide +kernel
theorem dL_law_627 : decode cL_law 627 = .ok (.ireturn, 1) := by decide +kernel
theorem dL_law_628 : decode cL_law 628 = .ok (.aload_n 1, 1) := by decide +kernel
theorem dL_law_629 : decode cL_law 629 = .ok (.aload_n 0, 1) := by decide +kernel
theorem dL_law_630 : decode cL_law 630 = .ok (.iload 4, 2) := by decide +kernel
theorem dL_law_632 : decode cL_law 632 = .ok (.iconst 1, 1) := by decide +kernel
theorem dL_law_633 : decode cL_law 633 = .ok (.iadd, 1) := by decide +kernel
theorem dL_law_634 : decode cL_law 634 = .ok (.iaload, 1) := by decide +kernel
theorem dL_law_635 : decode cL_law 635 = .ok (.aload_n 3, 1) := by decide +kernel
theorem dL_law_636 : decode cL_law 636 = .ok (.invokestatic 173, 3) := by decide +kernel
theorem dL_law_639 : decode cL_law 639 = .ok (.istore 5, 2) := by decide +kernel
theorem dL_law_641 : decode cL_law 641 = .ok (.aload_n 2, 1) := by decide +kernel
theorem dL_law_642 : decode cL_law 642 = .ok (.aload_n 0, 1) := by decide +kernel
theorem dL_law_643 : decode cL_law 643 = .ok (.iload 4, 2) := by decide +kernel
theorem dL_law_645 : decode cL_law 645 = .ok (.iconst 1, 1) := by decide +kernel
theorem dL_law_646 : decode cL_law 646 = .ok (.iadd, 1) := by decide +kernel
theorem dL_law_647 : decode cL_law 647 = .ok (.iaload, 1) := by decide +kernel
theorem dL_law_648 : decode cL_law 648 = .ok (.invokevirtual 176, 3) := by decide +kernel
theorem dL_law_651 : decode cL_law 651 = .ok (.istore 6, 2) := by decide +kernel
theorem dL_law_653 : decode cL_law 653 = .ok (.aload_n 2, 1) := by decide +kernel
theorem dL_law_654 : decode cL_law 654 = .ok (.invokevirtual 126, 3) := by decide +kernel
theorem dL_law_657 : decode cL_law 657 = .ok (.iload 5, 2) := by decide +kernel
theorem dL_law_659 : decode cL_law 659 = .ok (.if_icmp .eq 5, 3) := by decide +kernel
theorem dL_law_662 : decode cL_law 662 = .ok (.iconst 0, 1) := by decide +kernel
theorem dL_law_663 : decode cL_law 663 = .ok (.ireturn, 1) := by decide +kernel
theorem dL_law_664 : decode cL_law 664 = .ok (.iload 5, 2) := by decide +kernel
theorem dL_law_666 : decode cL_law 666 = .ok (.ifCond .ne 15, 3) := by decide +kernel
theorem dL_law_669 : decode cL_law 669 = .ok (.aload_n 3, 1) := by decide +kernel
theorem dL_law_670 : decode cL_law 670 = .ok (.iconst 0, 1) := by decide +kernel
theorem dL_law_671 : decode cL_law 671 = .ok (.laload, 1) := by decide +kernel
theorem dL_law_672 : decode cL_law 672 = .ok (.iload 6, 2) := by decide +kernel
theorem dL_law_674 : decode cL_law 674 = .ok (.i2l, 1) := by decide +kernel
theorem dL_law_675 : decode cL_law 675 = .ok (.lcmp, 1) := by decide +kernel
theorem dL_law_676 : decode cL_law 676 = .ok (.ifCond .eq 5, 3) := by decide +kernel
theorem dL_law_679 : decode cL_law 679 = .ok (.iconst 0, 1) := by decide +kernel
theorem dL_law_680 : decode cL_law 680 = .ok (.ireturn, 1) := by decide +kernel
theorem dL_law_681 : decode cL_law 681 = .ok (.goto 1871, 3) := by decide +kernel
theorem dL_law_684 : decode cL_law 684 = .ok (.aload_n 1, 1) := by decide +kernel
theorem dL_law_685 : decode cL_law 685 = .ok (.invokevirtual 177, 3) := by decide +kernel
theorem dL_law_688 : decode cL_law 688 = .ok (.aload_n 2, 1) := by decide +kernel
theorem dL_law_689 : decode cL_law 689 = .ok (.invokevirtual 180, 3) := by decide +kernel
theorem dL_law_692 : decode cL_law 692 = .ok (.if_icmp .eq 1860, 3) := by decide +kernel
theorem dL_law_695 : decode cL_law 695 = .ok (.iconst 0, 1) := by decide +kernel
theorem dL_law_696 : decode cL_law 696 = .ok (.ireturn, 1) := by decide +kernel
theorem dL_law_697 : decode cL_law 697 = .ok (.aload_n 1, 1) := by decide +kernel
theorem dL_law_698 : decode cL_law 698 = .ok (.invokevirtual 181, 3) := by decide +kernel
theorem dL_law_701 : decode cL_law 701 = .ok (.aload_n 2, 1) := by decide +kernel
theorem dL_law_702 : decode cL_law 702 = .ok (.invokevirtual 184, 3) := by decide +kernel
theorem dL_law_705 : decode cL_law 705 = .ok (.if_icmp .eq 1847, 3) := by decide +kernel
theorem dL_law_708 : decode cL_law 708 = .ok (.iconst 0, 1) := by decide +kernel
theorem dL_law_709 : decode cL_law 709 = .ok (.ireturn, 1) := by decide +kernel
theorem dL_law_710 : decode cL_law 710 = .ok (.aload_n 1, 1) := by decide +kernel
theorem dL_law_711 : decode cL_law 711 = .ok (.invokevirtual 185, 3) := by decide +kernel
theorem dL_law_714 : decode cL_law 714 = .ok (.aload_n 2, 1) := by decide +kernel
theorem dL_law_715 : decode cL_law 715 = .ok (.invokevirtual 188, 3) := by decide +kernel
theorem dL_law_718 : decode cL_law 718 = .ok (.if_icmp .eq 1834, 3) := by decide +kernel
theorem dL_law_721 : decode cL_law 721 = .ok (.iconst 0, 1) := by decide +kernel
theorem dL_law_722 : decode cL_law 722 = .ok (.ireturn, 1) := by decide +kernel
theorem dL_law_723 : decode cL_law 723 = .ok (.aload_n 1, 1) := by decide +kernel
theorem dL_law_724 : decode cL_law 724 = .ok (.invokevirtual 189, 3) := by decide +kernel
theorem dL_law_727 : decode cL_law 727 = .ok (.aload_n 2, 1) := by decide +kernel
theorem dL_law_728 : decode cL_law 728 = .ok (.invokevirtual 192, 3) := by decide +kernel
theorem dL_law_731 : decode cL_law 731 = .ok (.if_icmp .eq 1821, 3) := by decide +kernel
theorem dL_law_734 : decode cL_law 734 = .ok (.iconst 0, 1) := by decide +kernel
theorem dL_law_735 : decode cL_law 735 = .ok (.ireturn, 1) := by decide +kernel
theorem dL_law_736 : decode cL_law 736 = .ok (.aload_n 1, 1) := by decide +kernel
theorem dL_law_737 : decode cL_law 737 = .ok (.invokevirtual 193, 3) := by decide +kernel
theorem dL_law_740 : decode cL_law 740 = .ok (.aload_n 2, 1) := by decide +kernel
theorem dL_law_741 : decode cL_law 741 = .ok (.invokevirtual 196, 3) := by decide +kernel
theorem dL_law_744 : decode cL_law 744 = .ok (.if_icmp .eq 1808, 3) := by decide +kernel
theorem dL_law_747 : decode cL_law 747 = .ok (.iconst 0, 1) := by decide +kernel
theorem dL_law_748 : decode cL_law 748 = .ok (.ireturn, 1) := by decide +kernel
theorem dL_law_749 : decode cL_law 749 = .ok (.aload_n 1, 1) := by decide +kernel
theorem dL_law_750 : decode cL_law 750 = .ok (.aload_n 0, 1) := by decide +kernel
theorem dL_law_751 : decode cL_law 751 = .ok (.iload 4, 2) := by decide +kernel
theorem dL_law_753 : decode cL_law 753 = .ok (.iconst 1, 1) := by decide +kernel
theorem dL_law_754 : decode cL_law 754 = .ok (.iadd, 1) := by decide +kernel
theorem dL_law_755 : decode cL_law 755 = .ok (.iaload, 1) := by decide +kernel
theorem dL_law_756 : decode cL_law 756 = .ok (.aload_n 3, 1) := by decide +kernel
theorem dL_law_757 : decode cL_law 757 = .ok (.invokestatic 197, 3) := by decide +kernel
theorem dL_law_760 : decode cL_law 760 = .ok (.istore 5, 2) := by decide +kernel
theorem dL_law_762 : decode cL_law 762 = .ok (.aload_n 2, 1) := by decide +kernel
theorem dL_law_763 : decode cL_law 763 = .ok (.aload_n 0, 1) := by decide +kernel
theorem dL_law_764 : decode cL_law 764 = .ok (.iload 4, 2) := by decide +kernel
theorem dL_law_766 : decode cL_law 766 = .ok (.iconst 1, 1) := by decide +kernel
theorem dL_law_767 : decode cL_law 767 = .ok (.iadd, 1) := by decide +kernel
theorem dL_law_768 : decode cL_law 768 = .ok (.iaload, 1) := by decide +kernel
theorem dL_law_769 : decode cL_law 769 = .ok (.invokevirtual 199, 3) := by decide +kernel
theorem dL_law_772 : decode cL_law 772 = .ok (.istore 6, 2) := by decide +kernel
theorem dL_law_774 : decode cL_law 774 = .ok (.aload_n 2, 1) := by decide +kernel
theorem dL_law_775 : decode cL_law 775 = .ok (.invokevirtual 126, 3) := by decide +kernel
theorem dL_law_778 : decode cL_law 778 = .ok (.iload 5, 2) := by decide +kernel
theorem dL_law_780 : decode cL_law 780 = .ok (.if_icmp .eq 5, 3) := by decide +kernel
theorem dL_law_783 : decode cL_law 783 = .ok (.iconst 0, 1) := by decide +kernel
theorem dL_law_784 : decode cL_law 784 = .ok (.ireturn, 1) := by decide +kernel
theorem dL_law_785 : decode cL_law 785 = .ok (.iload 5, 2) := by decide +kernel
theorem dL_law_787 : decode cL_law 787 = .ok (.ifCond .ne 15, 3) := by decide +kernel
theorem dL_law_790 : decode cL_law 790 = .ok (.aload_n 3, 1) := by decide +kernel
theorem dL_law_791 : decode cL_law 791 = .ok (.iconst 0, 1) := by decide +kernel
theorem dL_law_792 : decode cL_law 792 = .ok (.laload, 1) := by decide +kernel
theorem dL_law_793 : decode cL_law 793 = .ok (.iload 6, 2) := by decide +kernel
theorem dL_law_795 : decode cL_law 795 = .ok (.i2l, 1) := by decide +kernel
theorem dL_law_796 : decode cL_law 796 = .ok (.lcmp, 1) := by decide +kernel
theorem dL_law_797 : decode cL_law 797 = .ok (.ifCond .eq 5, 3) := by decide +kernel
theorem dL_law_800 : decode cL_law 800 = .ok (.iconst 0, 1) := by decide +kernel
theorem dL_law_801 : decode cL_law 801 = .ok (.ireturn, 1) := by decide +kernel
theorem dL_law_802 : decode cL_law 802 = .ok (.goto 1750, 3) := by decide +kernel
theorem dL_law_805 : decode cL_law 805 = .ok (.aload_n 1, 1) := by decide +kernel
theorem dL_law_806 : decode cL_law 806 = .ok (.aload_n 0, 1) := by decide +kernel
theorem dL_law_807 : decode cL_law 807 = .ok (.iload 4, 2) := by decide +kernel
theorem dL_law_809 : decode cL_law 809 = .ok (.iconst 1, 1) := by decide +kernel
theorem dL_law_810 : decode cL_law 810 = .ok (.iadd, 1) := by decide +kernel
theorem dL_law_811 : decode cL_law 811 = .ok (.iaload, 1) := by decide +kernel
theorem dL_law_812 : decode cL_law 812 = .ok (.aload_n 3, 1) := by decide +kernel
theorem dL_law_813 : decode cL_law 813 = .ok (.invokestatic 200, 3) := by decide +kernel
theorem dL_law_816 : decode cL_law 816 = .ok (.istore 5, 2) := by decide +kernel
theorem dL_law_818 : decode cL_law 818 = .ok (.aload_n 2, 1) := by decide +kernel
theorem dL_law_819 : decode cL_law 819 = .ok (.aload_n 0, 1) := by decide +kernel
theorem dL_law_820 : decode cL_law 820 = .ok (.iload 4, 2) := by decide +kernel
theorem dL_law_822 : decode cL_law 822 = .ok (.iconst 1, 1) := by decide +kernel
theorem dL_law_823 : decode cL_law 823 = .ok (.iadd, 1) := by decide +kernel
theorem dL_law_824 : decode cL_law 824 = .ok (.iaload, 1) := by decide +kernel
theorem dL_law_825 : decode cL_law 825 = .ok (.invokevirtual 202, 3) := by decide +kernel
theorem dL_law_828 : decode cL_law 828 = .ok (.istore 6, 2) := by decide +kernel
theorem dL_law_830 : decode cL_law 830 = .ok (.aload_n 2, 1) := by decide +kernel
theorem dL_law_831 : decode cL_law 831 = .ok (.invokevirtual 126, 3) := by decide +kernel
theorem dL_law_834 : decode cL_law 834 = .ok (.iload 5, 2) := by decide +kernel
theorem dL_law_836 : decode cL_law 836 = .ok (.if_icmp .eq 5, 3) := by decide +kernel
theorem dL_law_839 : decode cL_law 839 = .ok (.iconst 0, 1) := by decide +kernel
theorem dL_law_840 : decode cL_law 840 = .ok (.ireturn, 1) := by decide +kernel
theorem dL_law_841 : decode cL_law 841 = .ok (.iload 5, 2) := by decide +kernel
theorem dL_law_843 : decode cL_law 843 = .ok (.ifCond .ne 15, 3) := by decide +kernel
theorem dL_law_846 : decode cL_law 846 = .ok (.aload_n 3, 1) := by decide +kernel
theorem dL_law_847 : decode cL_law 847 = .ok (.iconst 0, 1) := by decide +kernel
theorem dL_law_848 : decode cL_law 848 = .ok (.laload, 1) := by decide +kernel
theorem dL_law_849 : decode cL_law 849 = .ok (.iload 6, 2) := by decide +kernel
theorem dL_law_851 : decode cL_law 851 = .ok (.i2l, 1) := by decide +kernel
theorem dL_law_852 : decode cL_law 852 = .ok (.lcmp, 1) := by decide +kernel
theorem dL_law_853 : decode cL_law 853 = .ok (.ifCond .eq 5, 3) := by decide +kernel
theorem dL_law_856 : decode cL_law 856 = .ok (.iconst 0, 1) := by decide +kernel
theorem dL_law_857 : decode cL_law 857 = .ok (.ireturn, 1) := by decide +kernel
theorem dL_law_858 : decode cL_law 858 = .ok (.goto 1694, 3) := by decide +kernel
theorem dL_law_861 : decode cL_law 861 = .ok (.aload_n 1, 1) := by decide +kernel
theorem dL_law_862 : decode cL_law 862 = .ok (.aload_n 0, 1) := by decide +kernel
theorem dL_law_863 : decode cL_law 863 = .ok (.iload 4, 2) := by decide +kernel
theorem dL_law_865 : decode cL_law 865 = .ok (.iconst 1, 1) := by decide +kernel
theorem dL_law_866 : decode cL_law 866 = .ok (.iadd, 1) := by decide +kernel
theorem dL_law_867 : decode cL_law 867 = .ok (.iaload, 1) := by decide +kernel
theorem dL_law_868 : decode cL_law 868 = .ok (.aload_n 3, 1) := by decide +kernel
theorem dL_law_869 : decode cL_law 869 = .ok (.invokestatic 203, 3) := by decide +kernel
theorem dL_law_872 : decode cL_law 872 = .ok (.istore 5, 2) := by decide +kernel
theorem dL_law_874 : decode cL_law 874 = .ok (.aload_n 2, 1) := by decide +kernel
theorem dL_law_875 : decode cL_law 875 = .ok (.aload_n 0, 1) := by decide +kernel
theorem dL_law_876 : decode cL_law 876 = .ok (.iload 4, 2) := by decide +kernel
theorem dL_law_878 : decode cL_law 878 = .ok (.iconst 1, 1) := by decide +kernel
theorem dL_law_879 : decode cL_law 879 = .ok (.iadd, 1) := by decide +kernel
theorem dL_law_880 : decode cL_law 880 = .ok (.iaload, 1) := by decide +kernel
theorem dL_law_881 : decode cL_law 881 = .ok (.invokevirtual 205, 3) := by decide +kernel
theorem dL_law_884 : decode cL_law 884 = .ok (.istore 6, 2) := by decide +kernel
theorem dL_law_886 : decode cL_law 886 = .ok (.aload_n 2, 1) := by decide +kernel
theorem dL_law_887 : decode cL_law 887 = .ok (.invokevirtual 126, 3) := by decide +kernel
theorem dL_law_890 : decode cL_law 890 = .ok (.iload 5, 2) := by decide +kernel
theorem dL_law_892 : decode cL_law 892 = .ok (.if_icmp .eq 5, 3) := by decide +kernel
theorem dL_law_895 : decode cL_law 895 = .ok (.iconst 0, 1) := by decide +kernel
theorem dL_law_896 : decode cL_law 896 = .ok (.ireturn, 1) := by decide +kernel
theorem dL_law_897 : decode cL_law 897 = .ok (.iload 5, 2) := by decide +kernel
theorem dL_law_899 : decode cL_law 899 = .ok (.ifCond .ne 15, 3) := by decide +kernel
theorem dL_law_902 : decode cL_law 902 = .ok (.aload_n 3, 1) := by decide +kernel
theorem dL_law_903 : decode cL_law 903 = .ok (.iconst 0, 1) := by decide +kernel
theorem dL_law_904 : decode cL_law 904 = .ok (.laload, 1) := by decide +kernel
theorem dL_law_905 : decode cL_law 905 = .ok (.iload 6, 2) := by decide +kernel
theorem dL_law_907 : decode cL_law 907 = .ok (.i2l, 1) := by decide +kernel
theorem dL_law_908 : decode cL_law 908 = .ok (.lcmp, 1) := by decide +kernel
theorem dL_law_909 : decode cL_law 909 = .ok (.ifCond .eq 5, 3) := by decide +kernel
theorem dL_law_912 : decode cL_law 912 = .ok (.iconst 0, 1) := by decide +kernel
theorem dL_law_913 : decode cL_law 913 = .ok (.ireturn, 1) := by decide +kernel
theorem dL_law_914 : decode cL_law 914 = .ok (.goto 1638, 3) := by decide +kernel
theorem dL_law_917 : decode cL_law 917 = .ok (.aload_n 1, 1) := by decide +kernel
theorem dL_law_918 : decode cL_law 918 = .ok (.aload_n 0, 1) := by decide +kernel
theorem dL_law_919 : decode cL_law 919 = .ok (.iload 4, 2) := by decide +kernel
theorem dL_law_921 : decode cL_law 921 = .ok (.iconst 1, 1) := by decide +kernel
theorem dL_law_922 : decode cL_law 922 = .ok (.iadd, 1) := by decide +kernel
theorem dL_law_923 : decode cL_law 923 = .ok (.iaload, 1) := by decide +kernel
theorem dL_law_924 : decode cL_law 924 = .ok (.aload_n 3, 1) := by decide +kernel
theorem dL_law_925 : decode cL_law 925 = .ok (.invokestatic 206, 3) := by decide +kernel
theorem dL_law_928 : decode cL_law 928 = .ok (.istore 5, 2) := by decide +kernel
theorem dL_law_930 : decode cL_law 930 = .ok (.aload_n 2, 1) := by decide +kernel
theorem dL_law_931 : decode cL_law 931 = .ok (.aload_n 0, 1) := by decide +kernel
theorem dL_law_932 : decode cL_law 932 = .ok (.iload 4, 2) := by decide +kernel
theorem dL_law_934 : decode cL_law 934 = .ok (.iconst 1, 1) := by decide +kernel
theorem dL_law_935 : decode cL_law 935 = .ok (.iadd, 1) := by decide +kernel
theorem dL_law_936 : decode cL_law 936 = .ok (.iaload, 1) := by decide +kernel
theorem dL_law_937 : decode cL_law 937 = .ok (.invokevirtual 208, 3) := by decide +kernel
theorem dL_law_940 : decode cL_law 940 = .ok (.istore 6, 2) := by decide +kernel
theorem dL_law_942 : decode cL_law 942 = .ok (.aload_n 2, 1) := by decide +kernel
theorem dL_law_943 : decode cL_law 943 = .ok (.invokevirtual 126, 3) := by decide +kernel
theorem dL_law_946 : decode cL_law 946 = .ok (.iload 5, 2) := by decide +kernel
theorem dL_law_948 : decode cL_law 948 = .ok (.if_icmp .eq 5, 3) := by decide +kernel
theorem dL_law_951 : decode cL_law 951 = .ok (.iconst 0, 1) := by decide +kernel
theorem dL_law_952 : decode cL_law 952 = .ok (.ireturn, 1) := by decide +kernel
theorem dL_law_953 : decode cL_law 953 = .ok (.iload 5, 2) := by decide +kernel
theorem dL_law_955 : decode cL_law 955 = .ok (.ifCond .ne 15, 3) := by decide +kernel
theorem dL_law_958 : decode cL_law 958 = .ok (.aload_n 3, 1) := by decide +kernel
theorem dL_law_959 : decode cL_law 959 = .ok (.iconst 0, 1) := by decide +kernel
theorem dL_law_960 : decode cL_law 960 = .ok (.laload, 1) := by decide +kernel
theorem dL_law_961 : decode cL_law 961 = .ok (.iload 6, 2) := by decide +kernel
theorem dL_law_963 : decode cL_law 963 = .ok (.i2l, 1) := by decide +kernel
theorem dL_law_964 : decode cL_law 964 = .ok (.lcmp, 1) := by decide +kernel
theorem dL_law_965 : decode cL_law 965 = .ok (.ifCond .eq 5, 3) := by decide +kernel
theorem dL_law_968 : decode cL_law 968 = .ok (.iconst 0, 1) := by decide +kernel
theorem dL_law_969 : decode cL_law 969 = .ok (.ireturn, 1) := by decide +kernel
theorem dL_law_970 : decode cL_law 970 = .ok (.goto 1582, 3) := by decide +kernel
theorem dL_law_973 : decode cL_law 973 = .ok (.aload_n 1, 1) := by decide +kernel
theorem dL_law_974 : decode cL_law 974 = .ok (.aload_n 0, 1) := by decide +kernel
theorem dL_law_975 : decode cL_law 975 = .ok (.iload 4, 2) := by decide +kernel
theorem dL_law_977 : decode cL_law 977 = .ok (.iconst 1, 1) := by decide +kernel
theorem dL_law_978 : decode cL_law 978 = .ok (.iadd, 1) := by decide +kernel
theorem dL_law_979 : decode cL_law 979 = .ok (.iaload, 1) := by decide +kernel
theorem dL_law_980 : decode cL_law 980 = .ok (.aload_n 3, 1) := by decide +kernel
theorem dL_law_981 : decode cL_law 981 = .ok (.invokestatic 209, 3) := by decide +kernel
theorem dL_law_984 : decode cL_law 984 = .ok (.istore 5, 2) := by decide +kernel
theorem dL_law_986 : decode cL_law 986 = .ok (.aload_n 2, 1) := by decide +kernel
theorem dL_law_987 : decode cL_law 987 = .ok (.aload_n 0, 1) := by decide +kernel
theorem dL_law_988 : decode cL_law 988 = .ok (.iload 4, 2) := by decide +kernel
theorem dL_law_990 : decode cL_law 990 = .ok (.iconst 1, 1) := by decide +kernel
theorem dL_law_991 : decode cL_law 991 = .ok (.iadd, 1) := by decide +kernel
theorem dL_law_992 : decode cL_law 992 = .ok (.iaload, 1) := by decide +kernel
theorem dL_law_993 : decode cL_law 993 = .ok (.invokevirtual 211, 3) := by decide +kernel
theorem dL_law_996 : decode cL_law 996 = .ok (.istore 6, 2) := by decide +kernel
theorem dL_law_998 : decode cL_law 998 = .ok (.aload_n 2, 1) := by decide +kernel
theorem dL_law_999 : decode cL_law 999 = .ok (.invokevirtual 126, 3) := by decide +kernel
theorem dL_law_1002 : decode cL_law 1002 = .ok (.iload 5, 2) := by decide +kernel
theorem dL_law_1004 : decode cL_law 1004 = .ok (.if_icmp .eq 5, 3) := by decide +kernel
theorem dL_law_1007 : decode cL_law 1007 = .ok (.iconst 0, 1) := by decide +kernel
theorem dL_law_1008 : decode cL_law 1008 = .ok (.ireturn, 1) := by decide +kernel
theorem dL_law_1009 : decode cL_law 1009 = .ok (.iload 5, 2) := by decide +kernel
theorem dL_law_1011 : decode cL_law 1011 = .ok (.ifCond .ne 15, 3) := by decide +kernel
theorem dL_law_1014 : decode cL_law 1014 = .ok (.aload_n 3, 1) := by decide +kernel
theorem dL_law_1015 : decode cL_law 1015 = .ok (.iconst 0, 1) := by decide +kernel
theorem dL_law_1016 : decode cL_law 1016 = .ok (.laload, 1) := by decide +kernel
theorem dL_law_1017 : decode cL_law 1017 = .ok (.iload 6, 2) := by decide +kernel
theorem dL_law_1019 : decode cL_law 1019 = .ok (.i2l, 1) := by decide +kernel
theorem dL_law_1020 : decode cL_law 1020 = .ok (.lcmp, 1) := by decide +kernel
theorem dL_law_1021 : decode cL_law 1021 = .ok (.ifCond .eq 5, 3) := by decide +kernel
theorem dL_law_1024 : decode cL_law 1024 = .ok (.iconst 0, 1) := by decide +kernel
theorem dL_law_1025 : decode cL_law 1025 = .ok (.ireturn, 1) := by decide +kernel
theorem dL_law_1026 : decode cL_law 1026 = .ok (.goto 1526, 3) := by decide +kernel
theorem dL_law_1029 : decode cL_law 1029 = .ok (.aload_n 1, 1) := by decide +kernel
theorem dL_law_1030 : decode cL_law 1030 = .ok (.aload_n 0, 1) := by decide +kernel
theorem dL_law_1031 : decode cL_law 1031 = .ok (.iload 4, 2) := by decide +kernel
theorem dL_law_1033 : decode cL_law 1033 = .ok (.iconst 1, 1) := by decide +kernel
theorem dL_law_1034 : decode cL_law 1034 = .ok (.iadd, 1) := by decide +kernel
theorem dL_law_1035 : decode cL_law 1035 = .ok (.iaload, 1) := by decide +kernel
theorem dL_law_1036 : decode cL_law 1036 = .ok (.aload_n 3, 1) := by decide +kernel
theorem dL_law_1037 : decode cL_law 1037 = .ok (.invokestatic 212, 3) := by decide +kernel
theorem dL_law_1040 : decode cL_law 1040 = .ok (.istore 5, 2) := by decide +kernel
theorem dL_law_1042 : decode cL_law 1042 = .ok (.aload_n 2, 1) := by decide +kernel
theorem dL_law_1043 : decode cL_law 1043 = .ok (.aload_n 0, 1) := by decide +kernel
theorem dL_law_1044 : decode cL_law 1044 = .ok (.iload 4, 2) := by decide +kernel
theorem dL_law_1046 : decode cL_law 1046 = .ok (.iconst 1, 1) := by decide +kernel
theorem dL_law_1047 : decode cL_law 1047 = .ok (.iadd, 1) := by decide +kernel
theorem dL_law_1048 : decode cL_law 1048 = .ok (.iaload, 1) := by decide +kernel
theorem dL_law_1049 : decode cL_law 1049 = .ok (.invokevirtual 214, 3) := by decide +kernel
theorem dL_law_1052 : decode cL_law 1052 = .ok (.istore 6, 2) := by decide +kernel
theorem dL_law_1054 : decode cL_law 1054 = .ok (.aload_n 2, 1) := by decide +kernel
theorem dL_law_1055 : decode cL_law 1055 = .ok (.invokevirtual 126, 3) := by decide +kernel
theorem dL_law_1058 : decode cL_law 1058 = .ok (.iload 5, 2) := by decide +kernel
theorem dL_law_1060 : decode cL_law 1060 = .ok (.if_icmp .eq 5, 3) := by decide +kernel
theorem dL_law_1063 : decode cL_law 1063 = .ok (.iconst 0, 1) := by decide +kernel
theorem dL_law_1064 : decode cL_law 1064 = .ok (.ireturn, 1) := by decide +kernel
theorem dL_law_1065 : decode cL_law 1065 = .ok (.iload 5, 2) := by decide +kernel
theorem dL_law_1067 : decode cL_law 1067 = .ok (.ifCond .ne 15, 3) := by decide +kernel
theorem dL_law_1070 : decode cL_law 1070 = .ok (.aload_n 3, 1) := by decide +kernel
theorem dL_law_1071 : decode cL_law 1071 = .ok (.iconst 0, 1) := by decide +kernel
theorem dL_law_1072 : decode cL_law 1072 = .ok (.laload, 1) := by decide +kernel
theorem dL_law_1073 : decode cL_law 1073 = .ok (.iload 6, 2) := by decide +kernel
theorem dL_law_1075 : decode cL_law 1075 = .ok (.i2l, 1) := by decide +kernel
theorem dL_law_1076 : decode cL_law 1076 = .ok (.lcmp, 1) := by decide +kernel
theorem dL_law_1077 : decode cL_law 1077 = .ok (.ifCond .eq 5, 3) := by decide +kernel
theorem dL_law_1080 : decode cL_law 1080 = .ok (.iconst 0, 1) := by decide +kernel
theorem dL_law_1081 : decode cL_law 1081 = .ok (.ireturn, 1) := by decide +kernel
theorem dL_law_1082 : decode cL_law 1082 = .ok (.goto 1470, 3) := by decide +kernel
theorem dL_law_1085 : decode cL_law 1085 = .ok (.aload_n 1, 1) := by decide +kernel
theorem dL_law_1086 : decode cL_law 1086 = .ok (.aload_n 0, 1) := by decide +kernel
theorem dL_law_1087 : decode cL_law 1087 = .ok (.iload 4, 2) := by decide +kernel
theorem dL_law_1089 : decode cL_law 1089 = .ok (.iconst 1, 1) := by decide +kernel
theorem dL_law_1090 : decode cL_law 1090 = .ok (.iadd, 1) := by decide +kernel
theorem dL_law_1091 : decode cL_law 1091 = .ok (.iaload, 1) := by decide +kernel
theorem dL_law_1092 : decode cL_law 1092 = .ok (.aload_n 3, 1) := by decide +kernel
theorem dL_law_1093 : decode cL_law 1093 = .ok (.invokestatic 215, 3) := by decide +kernel
theorem dL_law_1096 : decode cL_law 1096 = .ok (.istore 5, 2) := by decide +kernel
theorem dL_law_1098 : decode cL_law 1098 = .ok (.aload_n 2, 1) := by decide +kernel
theorem dL_law_1099 : decode cL_law 1099 = .ok (.aload_n 0, 1) := by decide +kernel
theorem dL_law_1100 : decode cL_law 1100 = .ok (.iload 4, 2) := by decide +kernel
theorem dL_law_1102 : decode cL_law 1102 = .ok (.iconst 1, 1) := by decide +kernel
theorem dL_law_1103 : decode cL_law 1103 = .ok (.iadd, 1) := by decide +kernel
theorem dL_law_1104 : decode cL_law 1104 = .ok (.iaload, 1) := by decide +kernel
theorem dL_law_1105 : decode cL_law 1105 = .ok (.invokevirtual 217, 3) := by decide +kernel
theorem dL_law_1108 : decode cL_law 1108 = .ok (.istore 6, 2) := by decide +kernel
theorem dL_law_1110 : decode cL_law 1110 = .ok (.aload_n 2, 1) := by decide +kernel
theorem dL_law_1111 : decode cL_law 1111 = .ok (.invokevirtual 126, 3) := by decide +kernel
theorem dL_law_1114 : decode cL_law 1114 = .ok (.iload 5, 2) := by decide +kernel
theorem dL_law_1116 : decode cL_law 1116 = .ok (.if_icmp .eq 5, 3) := by decide +kernel
theorem dL_law_1119 : decode cL_law 1119 = .ok (.iconst 0, 1) := by decide +kernel
theorem dL_law_1120 : decode cL_law 1120 = .ok (.ireturn, 1) := by decide +kernel
theorem dL_law_1121 : decode cL_law 1121 = .ok (.iload 5, 2) := by decide +kernel
theorem dL_law_1123 : decode cL_law 1123 = .ok (.ifCond .ne 15, 3) := by decide +kernel
theorem dL_law_1126 : decode cL_law 1126 = .ok (.aload_n 3, 1) := by decide +kernel
theorem dL_law_1127 : decode cL_law 1127 = .ok (.iconst 0, 1) := by decide +kernel
theorem dL_law_1128 : decode cL_law 1128 = .ok (.laload, 1) := by decide +kernel
theorem dL_law_1129 : decode cL_law 1129 = .ok (.iload 6, 2) := by decide +kernel
theorem dL_law_1131 : decode cL_law 1131 = .ok (.i2l, 1) := by decide +kernel
theorem dL_law_1132 : decode cL_law 1132 = .ok (.lcmp, 1) := by decide +kernel
theorem dL_law_1133 : decode cL_law 1133 = .ok (.ifCond .eq 5, 3) := by decide +kernel
theorem dL_law_1136 : decode cL_law 1136 = .ok (.iconst 0, 1) := by decide +kernel
theorem dL_law_1137 : decode cL_law 1137 = .ok (.ireturn, 1) := by decide +kernel
theorem dL_law_1138 : decode cL_law 1138 = .ok (.goto 1414, 3) := by decide +kernel
theorem dL_law_1141 : decode cL_law 1141 = .ok (.aload_n 1, 1) := by decide +kernel
theorem dL_law_1142 : decode cL_law 1142 = .ok (.aload_n 0, 1) := by decide +kernel
theorem dL_law_1143 : decode cL_law 1143 = .ok (.iload 4, 2) := by decide +kernel
theorem dL_law_1145 : decode cL_law 1145 = .ok (.iconst 1, 1) := by decide +kernel
theorem dL_law_1146 : decode cL_law 1146 = .ok (.iadd, 1) := by decide +kernel
theorem dL_law_1147 : decode cL_law 1147 = .ok (.iaload, 1) := by decide +kernel
theorem dL_law_1148 : decode cL_law 1148 = .ok (.aload_n 3, 1) := by decide +kernel
theorem dL_law_1149 : decode cL_law 1149 = .ok (.invokestatic 218, 3) := by decide +kernel
theorem dL_law_1152 : decode cL_law 1152 = .ok (.istore 5, 2) := by decide +kernel
theorem dL_law_1154 : decode cL_law 1154 = .ok (.aload_n 2, 1) := by decide +kernel
theorem dL_law_1155 : decode cL_law 1155 = .ok (.aload_n 0, 1) := by decide +kernel
theorem dL_law_1156 : decode cL_law 1156 = .ok (.iload 4, 2) := by decide +kernel
theorem dL_law_1158 : decode cL_law 1158 = .ok (.iconst 1, 1) := by decide +kernel
theorem dL_law_1159 : decode cL_law 1159 = .ok (.iadd, 1) := by decide +kernel
theorem dL_law_1160 : decode cL_law 1160 = .ok (.iaload, 1) := by decide +kernel
theorem dL_law_1161 : decode cL_law 1161 = .ok (.invokevirtual 220, 3) := by decide +kernel
theorem dL_law_1164 : decode cL_law 1164 = .ok (.istore 6, 2) := by decide +kernel
theorem dL_law_1166 : decode cL_law 1166 = .ok (.aload_n 2, 1) := by decide +kernel
theorem dL_law_1167 : decode cL_law 1167 = .ok (.invokevirtual 126, 3) := by decide +kernel
theorem dL_law_1170 : decode cL_law 1170 = .ok (.iload 5, 2) := by decide +kernel
theorem dL_law_1172 : decode cL_law 1172 = .ok (.if_icmp .eq 5, 3) := by decide +kernel
theorem dL_law_1175 : decode cL_law 1175 = .ok (.iconst 0, 1) := by decide +kernel
theorem dL_law_1176 : decode cL_law 1176 = .ok (.ireturn, 1) := by decide +kernel
theorem dL_law_1177 : decode cL_law 1177 = .ok (.iload 5, 2) := by decide +kernel
theorem dL_law_1179 : decode cL_law 1179 = .ok (.ifCond .ne 15, 3) := by decide +kernel
theorem dL_law_1182 : decode cL_law 1182 = .ok (.aload_n 3, 1) := by decide +kernel
theorem dL_law_1183 : decode cL_law 1183 = .ok (.iconst 0, 1) := by decide +kernel
theorem dL_law_1184 : decode cL_law 1184 = .ok (.laload, 1) := by decide +kernel
theorem dL_law_1185 : decode cL_law 1185 = .ok (.iload 6, 2) := by decide +kernel
theorem dL_law_1187 : decode cL_law 1187 = .ok (.i2l, 1) := by decide +kernel
theorem dL_law_1188 : decode cL_law 1188 = .ok (.lcmp, 1) := by decide +kernel
theorem dL_law_1189 : decode cL_law 1189 = .ok (.ifCond .eq 5, 3) := by decide +kernel
theorem dL_law_1192 : decode cL_law 1192 = .ok (.iconst 0, 1) := by decide +kernel
theorem dL_law_1193 : decode cL_law 1193 = .ok (.ireturn, 1) := by decide +kernel
theorem dL_law_1194 : decode cL_law 1194 = .ok (.goto 1358, 3) := by decide +kernel
theorem dL_law_1197 : decode cL_law 1197 = .ok (.aload_n 1, 1) := by decide +kernel
theorem dL_law_1198 : decode cL_law 1198 = .ok (.aload_n 0, 1) := by decide +kernel
theorem dL_law_1199 : decode cL_law 1199 = .ok (.iload 4, 2) := by decide +kernel
theorem dL_law_1201 : decode cL_law 1201 = .ok (.iconst 1, 1) := by decide +kernel
theorem dL_law_1202 : decode cL_law 1202 = .ok (.iadd, 1) := by decide +kernel
theorem dL_law_1203 : decode cL_law 1203 = .ok (.iaload, 1) := by decide +kernel
theorem dL_law_1204 : decode cL_law 1204 = .ok (.aload_n 3, 1) := by decide +kernel
theorem dL_law_1205 : decode cL_law 1205 = .ok (.invokestatic 221, 3) := by decide +kernel
theorem dL_law_1208 : decode cL_law 1208 = .ok (.istore 5, 2) := by decide +kernel
theorem dL_law_1210 : decode cL_law 1210 = .ok (.aload_n 2, 1) := by decide +kernel
theorem dL_law_1211 : decode cL_law 1211 = .ok (.aload_n 0, 1) := by decide +kernel
theorem dL_law_1212 : decode cL_law 1212 = .ok (.iload 4, 2) := by decide +kernel
theorem dL_law_1214 : decode cL_law 1214 = .ok (.iconst 1, 1) := by decide +kernel
theorem dL_law_1215 : decode cL_law 1215 = .ok (.iadd, 1) := by decide +kernel
theorem dL_law_1216 : decode cL_law 1216 = .ok (.iaload, 1) := by decide +kernel
theorem dL_law_1217 : decode cL_law 1217 = .ok (.invokevirtual 223, 3) := by decide +kernel
theorem dL_law_1220 : decode cL_law 1220 = .ok (.istore 6, 2) := by decide +kernel
theorem dL_law_1222 : decode cL_law 1222 = .ok (.aload_n 2, 1) := by decide +kernel
theorem dL_law_1223 : decode cL_law 1223 = .ok (.invokevirtual 126, 3) := by decide +kernel
theorem dL_law_1226 : decode cL_law 1226 = .ok (.iload 5, 2) := by decide +kernel
theorem dL_law_1228 : decode cL_law 1228 = .ok (.if_icmp .eq 5, 3) := by decide +kernel
theorem dL_law_1231 : decode cL_law 1231 = .ok (.iconst 0, 1) := by decide +kernel
theorem dL_law_1232 : decode cL_law 1232 = .ok (.ireturn, 1) := by decide +kernel
theorem dL_law_1233 : decode cL_law 1233 = .ok (.iload 5, 2) := by decide +kernel
theorem dL_law_1235 : decode cL_law 1235 = .ok (.ifCond .ne 15, 3) := by decide +kernel
theorem dL_law_1238 : decode cL_law 1238 = .ok (.aload_n 3, 1) := by decide +kernel
theorem dL_law_1239 : decode cL_law 1239 = .ok (.iconst 0, 1) := by decide +kernel
theorem dL_law_1240 : decode cL_law 1240 = .ok (.laload, 1) := by decide +kernel
theorem dL_law_1241 : decode cL_law 1241 = .ok (.iload 6, 2) := by decide +kernel
theorem dL_law_1243 : decode cL_law 1243 = .ok (.i2l, 1) := by decide +kernel
theorem dL_law_1244 : decode cL_law 1244 = .ok (.lcmp, 1) := by decide +kernel
theorem dL_law_1245 : decode cL_law 1245 = .ok (.ifCond .eq 5, 3) := by decide +kernel
theorem dL_law_1248 : decode cL_law 1248 = .ok (.iconst 0, 1) := by decide +kernel
theorem dL_law_1249 : decode cL_law 1249 = .ok (.ireturn, 1) := by decide +kernel
theorem dL_law_1250 : decode cL_law 1250 = .ok (.goto 1302, 3) := by decide +kernel
theorem dL_law_1253 : decode cL_law 1253 = .ok (.aload_n 1, 1) := by decide +kernel
theorem dL_law_1254 : decode cL_law 1254 = .ok (.aload_n 0, 1) := by decide +kernel
theorem dL_law_1255 : decode cL_law 1255 = .ok (.iload 4, 2) := by decide +kernel
theorem dL_law_1257 : decode cL_law 1257 = .ok (.iconst 1, 1) := by decide +kernel
theorem dL_law_1258 : decode cL_law 1258 = .ok (.iadd, 1) := by decide +kernel
theorem dL_law_1259 : decode cL_law 1259 = .ok (.iaload, 1) := by decide +kernel
theorem dL_law_1260 : decode cL_law 1260 = .ok (.aload_n 3, 1) := by decide +kernel
theorem dL_law_1261 : decode cL_law 1261 = .ok (.invokestatic 224, 3) := by decide +kernel
theorem dL_law_1264 : decode cL_law 1264 = .ok (.istore 5, 2) := by decide +kernel
theorem dL_law_1266 : decode cL_law 1266 = .ok (.aload_n 2, 1) := by decide +kernel
theorem dL_law_1267 : decode cL_law 1267 = .ok (.aload_n 0, 1) := by decide +kernel
theorem dL_law_1268 : decode cL_law 1268 = .ok (.iload 4, 2) := by decide +kernel
theorem dL_law_1270 : decode cL_law 1270 = .ok (.iconst 1, 1) := by decide +kernel
theorem dL_law_1271 : decode cL_law 1271 = .ok (.iadd, 1) := by decide +kernel
theorem dL_law_1272 : decode cL_law 1272 = .ok (.iaload, 1) := by decide +kernel
theorem dL_law_1273 : decode cL_law 1273 = .ok (.invokevirtual 226, 3) := by decide +kernel
theorem dL_law_1276 : decode cL_law 1276 = .ok (.istore 6, 2) := by decide +kernel
theorem dL_law_1278 : decode cL_law 1278 = .ok (.aload_n 2, 1) := by decide +kernel
theorem dL_law_1279 : decode cL_law 1279 = .ok (.invokevirtual 126, 3) := by decide +kernel
theorem dL_law_1282 : decode cL_law 1282 = .ok (.iload 5, 2) := by decide +kernel
theorem dL_law_1284 : decode cL_law 1284 = .ok (.if_icmp .eq 5, 3) := by decide +kernel
theorem dL_law_1287 : decode cL_law 1287 = .ok (.iconst 0, 1) := by decide +kernel
theorem dL_law_1288 : decode cL_law 1288 = .ok (.ireturn, 1) := by decide +kernel
theorem dL_law_1289 : decode cL_law 1289 = .ok (.iload 5, 2) := by decide +kernel
theorem dL_law_1291 : decode cL_law 1291 = .ok (.ifCond .ne 15, 3) := by decide +kernel
theorem dL_law_1294 : decode cL_law 1294 = .ok (.aload_n 3, 1) := by decide +kernel
theorem dL_law_1295 : decode cL_law 1295 = .ok (.iconst 0, 1) := by decide +kernel
theorem dL_law_1296 : decode cL_law 1296 = .ok (.laload, 1) := by decide +kernel
theorem dL_law_1297 : decode cL_law 1297 = .ok (.iload 6, 2) := by decide +kernel
theorem dL_law_1299 : decode cL_law 1299 = .ok (.i2l, 1) := by decide +kernel
theorem dL_law_1300 : decode cL_law 1300 = .ok (.lcmp, 1) := by decide +kernel
theorem dL_law_1301 : decode cL_law 1301 = .ok (.ifCond .eq 5, 3) := by decide +kernel
theorem dL_law_1304 : decode cL_law 1304 = .ok (.iconst 0, 1) := by decide +kernel
theorem dL_law_1305 : decode cL_law 1305 = .ok (.ireturn, 1) := by decide +kernel
theorem dL_law_1306 : decode cL_law 1306 = .ok (.goto 1246, 3) := by decide +kernel
theorem dL_law_1309 : decode cL_law 1309 = .ok (.aload_n 1, 1) := by decide +kernel
theorem dL_law_1310 : decode cL_law 1310 = .ok (.aload_n 0, 1) := by decide +kernel
theorem dL_law_1311 : decode cL_law 1311 = .ok (.iload 4, 2) := by decide +kernel
theorem dL_law_1313 : decode cL_law 1313 = .ok (.iconst 1, 1) := by decide +kernel
theorem dL_law_1314 : decode cL_law 1314 = .ok (.iadd, 1) := by decide +kernel
theorem dL_law_1315 : decode cL_law 1315 = .ok (.iaload, 1) := by decide +kernel
theorem dL_law_1316 : decode cL_law 1316 = .ok (.aload_n 3, 1) := by decide +kernel
theorem dL_law_1317 : decode cL_law 1317 = .ok (.invokestatic 227, 3) := by decide +kernel
theorem dL_law_1320 : decode cL_law 1320 = .ok (.istore 5, 2) := by decide +kernel
theorem dL_law_1322 : decode cL_law 1322 = .ok (.aload_n 2, 1) := by decide +kernel
theorem dL_law_1323 : decode cL_law 1323 = .ok (.aload_n 0, 1) := by decide +kernel
theorem dL_law_1324 : decode cL_law 1324 = .ok (.iload 4, 2) := by decide +kernel
theorem dL_law_1326 : decode cL_law 1326 = .ok (.iconst 1, 1) := by decide +kernel
theorem dL_law_1327 : decode cL_law 1327 = .ok (.iadd, 1) := by decide +kernel
theorem dL_law_1328 : decode cL_law 1328 = .ok (.iaload, 1) := by decide +kernel
theorem dL_law_1329 : decode cL_law 1329 = .ok (.invokevirtual 229, 3) := by decide +kernel
theorem dL_law_1332 : decode cL_law 1332 = .ok (.istore 6, 2) := by decide +kernel
theorem dL_law_1334 : decode cL_law 1334 = .ok (.aload_n 2, 1) := by decide +kernel
theorem dL_law_1335 : decode cL_law 1335 = .ok (.invokevirtual 126, 3) := by decide +kernel
theorem dL_law_1338 : decode cL_law 1338 = .ok (.iload 5, 2) := by decide +kernel
theorem dL_law_1340 : decode cL_law 1340 = .ok (.if_icmp .eq 5, 3) := by decide +kernel
theorem dL_law_1343 : decode cL_law 1343 = .ok (.iconst 0, 1) := by decide +kernel
theorem dL_law_1344 : decode cL_law 1344 = .ok (.ireturn, 1) := by decide +kernel
theorem dL_law_1345 : decode cL_law 1345 = .ok (.iload 5, 2) := by decide +kernel
theorem dL_law_1347 : decode cL_law 1347 = .ok (.ifCond .ne 15, 3) := by decide +kernel
theorem dL_law_1350 : decode cL_law 1350 = .ok (.aload_n 3, 1) := by decide +kernel
theorem dL_law_1351 : decode cL_law 1351 = .ok (.iconst 0, 1) := by decide +kernel
theorem dL_law_1352 : decode cL_law 1352 = .ok (.laload, 1) := by decide +kernel
theorem dL_law_1353 : decode cL_law 1353 = .ok (.iload 6, 2) := by decide +kernel
theorem dL_law_1355 : decode cL_law 1355 = .ok (.i2l, 1) := by decide +kernel
theorem dL_law_1356 : decode cL_law 1356 = .ok (.lcmp, 1) := by decide +kernel
theorem dL_law_1357 : decode cL_law 1357 = .ok (.ifCond .eq 5, 3) := by decide +kernel
theorem dL_law_1360 : decode cL_law 1360 = .ok (.iconst 0, 1) := by decide +kernel
theorem dL_law_1361 : decode cL_law 1361 = .ok (.ireturn, 1) := by decide +kernel
theorem dL_law_1362 : decode cL_law 1362 = .ok (.goto 1190, 3) := by decide +kernel
theorem dL_law_1365 : decode cL_law 1365 = .ok (.aload_n 1, 1) := by decide +kernel
theorem dL_law_1366 : decode cL_law 1366 = .ok (.aload_n 0, 1) := by decide +kernel
theorem dL_law_1367 : decode cL_law 1367 = .ok (.iload 4, 2) := by decide +kernel
theorem dL_law_1369 : decode cL_law 1369 = .ok (.iconst 1, 1) := by decide +kernel
theorem dL_law_1370 : decode cL_law 1370 = .ok (.iadd, 1) := by decide +kernel
theorem dL_law_1371 : decode cL_law 1371 = .ok (.iaload, 1) := by decide +kernel
theorem dL_law_1372 : decode cL_law 1372 = .ok (.aload_n 0, 1) := by decide +kernel
theorem dL_law_1373 : decode cL_law 1373 = .ok (.iload 4, 2) := by decide +kernel
theorem dL_law_1375 : decode cL_law 1375 = .ok (.iconst 2, 1) := by decide +kernel
theorem dL_law_1376 : decode cL_law 1376 = .ok (.iadd, 1) := by decide +kernel
theorem dL_law_1377 : decode cL_law 1377 = .ok (.iaload, 1) := by decide +kernel
theorem dL_law_1378 : decode cL_law 1378 = .ok (.aload_n 3, 1) := by decide +kernel
theorem dL_law_1379 : decode cL_law 1379 = .ok (.invokestatic 230, 3) := by decide +kernel
theorem dL_law_1382 : decode cL_law 1382 = .ok (.istore 5, 2) := by decide +kernel
theorem dL_law_1384 : decode cL_law 1384 = .ok (.aload_n 2, 1) := by decide +kernel
theorem dL_law_1385 : decode cL_law 1385 = .ok (.aload_n 0, 1) := by decide +kernel
theorem dL_law_1386 : decode cL_law 1386 = .ok (.iload 4, 2) := by decide +kernel
theorem dL_law_1388 : decode cL_law 1388 = .ok (.iconst 1, 1) := by decide +kernel
theorem dL_law_1389 : decode cL_law 1389 = .ok (.iadd, 1) := by decide +kernel
theorem dL_law_1390 : decode cL_law 1390 = .ok (.iaload, 1) := by decide +kernel
theorem dL_law_1391 : decode cL_law 1391 = .ok (.aload_n 0, 1) := by decide +kernel
theorem dL_law_1392 : decode cL_law 1392 = .ok (.iload 4, 2) := by decide +kernel
theorem dL_law_1394 : decode cL_law 1394 = .ok (.iconst 2, 1) := by decide +kernel
theorem dL_law_1395 : decode cL_law 1395 = .ok (.iadd, 1) := by decide +kernel
theorem dL_law_1396 : decode cL_law 1396 = .ok (.iaload, 1) := by decide +kernel
theorem dL_law_1397 : decode cL_law 1397 = .ok (.invokevirtual 233, 3) := by decide +kernel
theorem dL_law_1400 : decode cL_law 1400 = .ok (.istore 6, 2) := by decide +kernel
theorem dL_law_1402 : decode cL_law 1402 = .ok (.aload_n 2, 1) := by decide +kernel
theorem dL_law_1403 : decode cL_law 1403 = .ok (.invokevirtual 126, 3) := by decide +kernel
theorem dL_law_1406 : decode cL_law 1406 = .ok (.iload 5, 2) := by decide +kernel
theorem dL_law_1408 : decode cL_law 1408 = .ok (.if_icmp .eq 5, 3) := by decide +kernel
theorem dL_law_1411 : decode cL_law 1411 = .ok (.iconst 0, 1) := by decide +kernel
theorem dL_law_1412 : decode cL_law 1412 = .ok (.ireturn, 1) := by decide +kernel
theorem dL_law_1413 : decode cL_law 1413 = .ok (.iload 5, 2) := by decide +kernel
theorem dL_law_1415 : decode cL_law 1415 = .ok (.ifCond .ne 15, 3) := by decide +kernel
theorem dL_law_1418 : decode cL_law 1418 = .ok (.aload_n 3, 1) := by decide +kernel
theorem dL_law_1419 : decode cL_law 1419 = .ok (.iconst 0, 1) := by decide +kernel
theorem dL_law_1420 : decode cL_law 1420 = .ok (.laload, 1) := by decide +kernel
theorem dL_law_1421 : decode cL_law 1421 = .ok (.iload 6, 2) := by decide +kernel
theorem dL_law_1423 : decode cL_law 1423 = .ok (.i2l, 1) := by decide +kernel
theorem dL_law_1424 : decode cL_law 1424 = .ok (.lcmp, 1) := by decide +kernel
theorem dL_law_1425 : decode cL_law 1425 = .ok (.ifCond .eq 5, 3) := by decide +kernel
theorem dL_law_1428 : decode cL_law 1428 = .ok (.iconst 0, 1) := by decide +kernel
theorem dL_law_1429 : decode cL_law 1429 = .ok (.ireturn, 1) := by decide +kernel
theorem dL_law_1430 : decode cL_law 1430 = .ok (.goto 1122, 3) := by decide +kernel
theorem dL_law_1433 : decode cL_law 1433 = .ok (.aload_n 1, 1) := by decide +kernel
theorem dL_law_1434 : decode cL_law 1434 = .ok (.invokevirtual 234, 3) := by decide +kernel
theorem dL_law_1437 : decode cL_law 1437 = .ok (.aload_n 2, 1) := by decide +kernel
theorem dL_law_1438 : decode cL_law 1438 = .ok (.invokevirtual 237, 3) := by decide +kernel
theorem dL_law_1441 : decode cL_law 1441 = .ok (.if_icmp .eq 1111, 3) := by decide +kernel
theorem dL_law_1444 : decode cL_law 1444 = .ok (.iconst 0, 1) := by decide +kernel
theorem dL_law_1445 : decode cL_law 1445 = .ok (.ireturn, 1) := by decide +kernel
theorem dL_law_1446 : decode cL_law 1446 = .ok (.aload_n 1, 1) := by decide +kernel
theorem dL_law_1447 : decode cL_law 1447 = .ok (.aload_n 0, 1) := by decide +kernel
theorem dL_law_1448 : decode cL_law 1448 = .ok (.iload 4, 2) := by decide +kernel
theorem dL_law_1450 : decode cL_law 1450 = .ok (.iconst 1, 1) := by decide +kernel
theorem dL_law_1451 : decode cL_law 1451 = .ok (.iadd, 1) := by decide +kernel
theorem dL_law_1452 : decode cL_law 1452 = .ok (.iaload, 1) := by decide +kernel
theorem dL_law_1453 : decode cL_law 1453 = .ok (.aload_n 3, 1) := by decide +kernel
theorem dL_law_1454 : decode cL_law 1454 = .ok (.invokestatic 238, 3) := by decide +kernel
theorem dL_law_1457 : decode cL_law 1457 = .ok (.istore 5, 2) := by decide +kernel
theorem dL_law_1459 : decode cL_law 1459 = .ok (.aload_n 2, 1) := by decide +kernel
theorem dL_law_1460 : decode cL_law 1460 = .ok (.aload_n 0, 1) := by decide +kernel
theorem dL_law_1461 : decode cL_law 1461 = .ok (.iload 4, 2) := by decide +kernel
theorem dL_law_1463 : decode cL_law 1463 = .ok (.iconst 1, 1) := by decide +kernel
theorem dL_law_1464 : decode cL_law 1464 = .ok (.iadd, 1) := by decide +kernel
theorem dL_law_1465 : decode cL_law 1465 = .ok (.iaload, 1) := by decide +kernel
theorem dL_law_1466 : decode cL_law 1466 = .ok (.invokevirtual 240, 3) := by decide +kernel
theorem dL_law_1469 : decode cL_law 1469 = .ok (.istore 6, 2) := by decide +kernel
theorem dL_law_1471 : decode cL_law 1471 = .ok (.aload_n 2, 1) := by decide +kernel
theorem dL_law_1472 : decode cL_law 1472 = .ok (.invokevirtual 126, 3) := by decide +kernel
theorem dL_law_1475 : decode cL_law 1475 = .ok (.iload 5, 2) := by decide +kernel
theorem dL_law_1477 : decode cL_law 1477 = .ok (.if_icmp .eq 5, 3) := by decide +kernel
theorem dL_law_1480 : decode cL_law 1480 = .ok (.iconst 0, 1) := by decide +kernel
theorem dL_law_1481 : decode cL_law 1481 = .ok (.ireturn, 1) := by decide +kernel
theorem dL_law_1482 : decode cL_law 1482 = .ok (.iload 5, 2) := by decide +kernel
theorem dL_law_1484 : decode cL_law 1484 = .ok (.ifCond .ne 15, 3) := by decide +kernel
theorem dL_law_1487 : decode cL_law 1487 = .ok (.aload_n 3, 1) := by decide +kernel
theorem dL_law_1488 : decode cL_law 1488 = .ok (.iconst 0, 1) := by decide +kernel
theorem dL_law_1489 : decode cL_law 1489 = .ok (.laload, 1) := by decide +kernel
theorem dL_law_1490 : decode cL_law 1490 = .ok (.iload 6, 2) := by decide +kernel
theorem dL_law_1492 : decode cL_law 1492 = .ok (.i2l, 1) := by decide +kernel
theorem dL_law_1493 : decode cL_law 1493 = .ok (.lcmp, 1) := by decide +kernel
theorem dL_law_1494 : decode cL_law 1494 = .ok (.ifCond .eq 5, 3) := by decide +kernel
theorem dL_law_1497 : decode cL_law 1497 = .ok (.iconst 0, 1) := by decide +kernel
theorem dL_law_1498 : decode cL_law 1498 = .ok (.ireturn, 1) := by decide +kernel
theorem dL_law_1499 : decode cL_law 1499 = .ok (.goto 1053, 3) := by decide +kernel
theorem dL_law_1502 : decode cL_law 1502 = .ok (.aload_n 1, 1) := by decide +kernel
theorem dL_law_1503 : decode cL_law 1503 = .ok (.invokevirtual 241, 3) := by decide +kernel
theorem dL_law_1506 : decode cL_law 1506 = .ok (.aload_n 2, 1) := by decide +kernel
theorem dL_law_1507 : decode cL_law 1507 = .ok (.invokevirtual 244, 3) := by decide +kernel
theorem dL_law_1510 : decode cL_law 1510 = .ok (.if_icmp .eq 1042, 3) := by decide +kernel
theorem dL_law_1513 : decode cL_law 1513 = .ok (.iconst 0, 1) := by decide +kernel
theorem dL_law_1514 : decode cL_law 1514 = .ok (.ireturn, 1) := by decide +kernel
theorem dL_law_1515 : decode cL_law 1515 = .ok (.aload_n 1, 1) := by decide +kernel
theorem dL_law_1516 : decode cL_law 1516 = .ok (.aload_n 0, 1) := by decide +kernel
theorem dL_law_1517 : decode cL_law 1517 = .ok (.iload 4, 2) := by decide +kernel
theorem dL_law_1519 : decode cL_law 1519 = .ok (.iconst 1, 1) := by decide +kernel
theorem dL_law_1520 : decode cL_law 1520 = .ok (.iadd, 1) := by decide +kernel
theorem dL_law_1521 : decode cL_law 1521 = .ok (.iaload, 1) := by decide +kernel
theorem dL_law_1522 : decode cL_law 1522 = .ok (.aload_n 0, 1) := by decide +kernel
theorem dL_law_1523 : decode cL_law 1523 = .ok (.iload 4, 2) := by decide +kernel
theorem dL_law_1525 : decode cL_law 1525 = .ok (.iconst 2, 1) := by decide +kernel
theorem dL_law_1526 : decode cL_law 1526 = .ok (.iadd, 1) := by decide +kernel
theorem dL_law_1527 : decode cL_law 1527 = .ok (.iaload, 1) := by decide +kernel
theorem dL_law_1528 : decode cL_law 1528 = .ok (.aload_n 3, 1) := by decide +kernel
theorem dL_law_1529 : decode cL_law 1529 = .ok (.invokestatic 245, 3) := by decide +kernel
theorem dL_law_1532 : decode cL_law 1532 = .ok (.istore 5, 2) := by decide +kernel
theorem dL_law_1534 : decode cL_law 1534 = .ok (.aload_n 2, 1) := by decide +kernel
theorem dL_law_1535 : decode cL_law 1535 = .ok (.aload_n 0, 1) := by decide +kernel
theorem dL_law_1536 : decode cL_law 1536 = .ok (.iload 4, 2) := by decide +kernel
theorem dL_law_1538 : decode cL_law 1538 = .ok (.iconst 1, 1) := by decide +kernel
theorem dL_law_1539 : decode cL_law 1539 = .ok (.iadd, 1) := by decide +kernel
theorem dL_law_1540 : decode cL_law 1540 = .ok (.iaload, 1) := by decide +kernel
theorem dL_law_1541 : decode cL_law 1541 = .ok (.aload_n 0, 1) := by decide +kernel
theorem dL_law_1542 : decode cL_law 1542 = .ok (.iload 4, 2) := by decide +kernel
theorem dL_law_1544 : decode cL_law 1544 = .ok (.iconst 2, 1) := by decide +kernel
theorem dL_law_1545 : decode cL_law 1545 = .ok (.iadd, 1) := by decide +kernel
theorem dL_law_1546 : decode cL_law 1546 = .ok (.iaload, 1) := by decide +kernel
theorem dL_law_1547 : decode cL_law 1547 = .ok (.invokevirtual 247, 3) := by decide +kernel
theorem dL_law_1550 : decode cL_law 1550 = .ok (.istore 6, 2) := by decide +kernel
theorem dL_law_1552 : decode cL_law 1552 = .ok (.aload_n 2, 1) := by decide +kernel
theorem dL_law_1553 : decode cL_law 1553 = .ok (.invokevirtual 126, 3) := by decide +kernel
theorem dL_law_1556 : decode cL_law 1556 = .ok (.iload 5, 2) := by decide +kernel
theorem dL_law_1558 : decode cL_law 1558 = .ok (.if_icmp .eq 5, 3) := by decide +kernel
theorem dL_law_1561 : decode cL_law 1561 = .ok (.iconst 0, 1) := by decide +kernel
theorem dL_law_1562 : decode cL_law 1562 = .ok (.ireturn, 1) := by decide +kernel
theorem dL_law_1563 : decode cL_law 1563 = .ok (.iload 5, 2) := by decide +kernel
theorem dL_law_1565 : decode cL_law 1565 = .ok (.ifCond .ne 15, 3) := by decide +kernel
theorem dL_law_1568 : decode cL_law 1568 = .ok (.aload_n 3, 1) := by decide +kernel
theorem dL_law_1569 : decode cL_law 1569 = .ok (.iconst 0, 1) := by decide +kernel
theorem dL_law_1570 : decode cL_law 1570 = .ok (.laload, 1) := by decide +kernel
theorem dL_law_1571 : decode cL_law 1571 = .ok (.iload 6, 2) := by decide +kernel
theorem dL_law_1573 : decode cL_law 1573 = .ok (.i2l, 1) := by decide +kernel
theorem dL_law_1574 : decode cL_law 1574 = .ok (.lcmp, 1) := by decide +kernel
theorem dL_law_1575 : decode cL_law 1575 = .ok (.ifCond .eq 5, 3) := by decide +kernel
theorem dL_law_1578 : decode cL_law 1578 = .ok (.iconst 0, 1) := by decide +kernel
theorem dL_law_1579 : decode cL_law 1579 = .ok (.ireturn, 1) := by decide +kernel
theorem dL_law_1580 : decode cL_law 1580 = .ok (.goto 972, 3) := by decide +kernel
theorem dL_law_1583 : decode cL_law 1583 = .ok (.aload_n 1, 1) := by decide +kernel
theorem dL_law_1584 : decode cL_law 1584 = .ok (.invokevirtual 248, 3) := by decide +kernel
theorem dL_law_1587 : decode cL_law 1587 = .ok (.aload_n 2, 1) := by decide +kernel
theorem dL_law_1588 : decode cL_law 1588 = .ok (.invokevirtual 251, 3) := by decide +kernel
theorem dL_law_1591 : decode cL_law 1591 = .ok (.if_icmp .eq 961, 3) := by decide +kernel
theorem dL_law_1594 : decode cL_law 1594 = .ok (.iconst 0, 1) := by decide +kernel
theorem dL_law_1595 : decode cL_law 1595 = .ok (.ireturn, 1) := by decide +kernel
theorem dL_law_1596 : decode cL_law 1596 = .ok (.aload_n 1, 1) := by decide +kernel
theorem dL_law_1597 : decode cL_law 1597 = .ok (.invokevirtual 252, 3) := by decide +kernel
theorem dL_law_1600 : decode cL_law 1600 = .ok (.aload_n 2, 1) := by decide +kernel
theorem dL_law_1601 : decode cL_law 1601 = .ok (.invokevirtual 255, 3) := by decide +kernel
theorem dL_law_1604 : decode cL_law 1604 = .ok (.if_icmp .eq 948, 3) := by decide +kernel
theorem dL_law_1607 : decode cL_law 1607 = .ok (.iconst 0, 1) := by decide +kernel
theorem dL_law_1608 : decode cL_law 1608 = .ok (.ireturn, 1) := by decide +kernel
theorem dL_law_1609 : decode cL_law 1609 = .ok (.aload_n 1, 1) := by decide +kernel
theorem dL_law_1610 : decode cL_law 1610 = .ok (.invokevirtual 256, 3) := by decide +kernel
theorem dL_law_1613 : decode cL_law 1613 = .ok (.aload_n 2, 1) := by decide +kernel
theorem dL_law_1614 : decode cL_law 1614 = .ok (.invokevirtual 259, 3) := by decide +kernel
theorem dL_law_1617 : decode cL_law 1617 = .ok (.if_icmp .eq 935, 3) := by decide +kernel
theorem dL_law_1620 : decode cL_law 1620 = .ok (.iconst 0, 1) := by decide +kernel
theorem dL_law_1621 : decode cL_law 1621 = .ok (.ireturn, 1) := by decide +kernel
theorem dL_law_1622 : decode cL_law 1622 = .ok (.aload_n 1, 1) := by decide +kernel
theorem dL_law_1623 : decode cL_law 1623 = .ok (.invokevirtual 260, 3) := by decide +kernel
theorem dL_law_1626 : decode cL_law 1626 = .ok (.aload_n 2, 1) := by decide +kernel
theorem dL_law_1627 : decode cL_law 1627 = .ok (.invokevirtual 263, 3) := by decide +kernel
theorem dL_law_1630 : decode cL_law 1630 = .ok (.if_icmp .eq 922, 3) := by decide +kernel
theorem dL_law_1633 : decode cL_law 1633 = .ok (.iconst 0, 1) := by decide +kernel
theorem dL_law_1634 : decode cL_law 1634 = .ok (.ireturn, 1) := by decide +kernel
theorem dL_law_1635 : decode cL_law 1635 = .ok (.aload_n 1, 1) := by decide +kernel
theorem dL_law_1636 : decode cL_law 1636 = .ok (.invokevirtual 264, 3) := by decide +kernel
theorem dL_law_1639 : decode cL_law 1639 = .ok (.f2d, 1) := by decide +kernel
theorem dL_law_1640 : decode cL_law 1640 = .ok (.dstore 5, 2) := by decide +kernel
theorem dL_law_1642 : decode cL_law 1642 = .ok (.aload_n 2, 1) := by decide +kernel
theorem dL_law_1643 : decode cL_law 1643 = .ok (.invokevirtual 268, 3) := by decide +kernel
theorem dL_law_1646 : decode cL_law 1646 = .ok (.f2d, 1) := by decide +kernel
theorem dL_law_1647 : decode cL_law 1647 = .ok (.dstore 7, 2) := by decide +kernel
theorem dL_law_1649 : decode cL_law 1649 = .ok (.dload 5, 2) := by decide +kernel
theorem dL_law_1651 : decode cL_law 1651 = .ok (.dload 7, 2) := by decide +kernel
theorem dL_law_1653 : decode cL_law 1653 = .ok (.dcmp .l, 1) := by decide +kernel
theorem dL_law_1654 : decode cL_law 1654 = .ok (.ifCond .eq 21, 3) := by decide +kernel
theorem dL_law_1657 : decode cL_law 1657 = .ok (.dload 5, 2) := by decide +kernel
theorem dL_law_1659 : decode cL_law 1659 = .ok (.dload 5, 2) := by decide +kernel
theorem dL_law_1661 : decode cL_law 1661 = .ok (.dcmp .l, 1) := by decide +kernel
theorem dL_law_1662 : decode cL_law 1662 = .ok (.ifCond .eq 11, 3) := by decide +kernel
theorem dL_law_1665 : decode cL_law 1665 = .ok (.dload 7, 2) := by decide +kernel
theorem dL_law_1667 : decode cL_law 1667 = .ok (.dload 7, 2) := by decide +kernel
theorem dL_law_1669 : decode cL_law 1669 = .ok (.dcmp .l, 1) := by decide +kernel
theorem dL_law_1670 : decode cL_law 1670 = .ok (.ifCond .ne 5, 3) := by decide +kernel
theorem dL_law_1673 : decode cL_law 1673 = .ok (.iconst 0, 1) := by decide +kernel
theorem dL_law_1674 : decode cL_law 1674 = .ok (.ireturn, 1) := by decide +kernel
theorem dL_law_1675 : decode cL_law 1675 = .ok (.goto 877, 3) := by decide +kernel
theorem dL_law_1678 : decode cL_law 1678 = .ok (.aload_n 1, 1) := by decide +kernel
theorem dL_law_1679 : decode cL_law 1679 = .ok (.invokevirtual 269, 3) := by decide +kernel
theorem dL_law_1682 : decode cL_law 1682 = .ok (.aload_n 2, 1) := by decide +kernel
theorem dL_law_1683 : decode cL_law 1683 = .ok (.invokevirtual 272, 3) := by decide +kernel
theorem dL_law_1686 : decode cL_law 1686 = .ok (.if_icmp .eq 866, 3) := by decide +kernel
theorem dL_law_1689 : decode cL_law 1689 = .ok (.iconst 0, 1) := by decide +kernel
theorem dL_law_1690 : decode cL_law 1690 = .ok (.ireturn, 1) := by decide +kernel
theorem dL_law_1691 : decode cL_law 1691 = .ok (.aload_n 1, 1) := by decide +kernel
theorem dL_law_1692 : decode cL_law 1692 = .ok (.invokevirtual 273, 3) := by decide +kernel
theorem dL_law_1695 : decode cL_law 1695 = .ok (.aload_n 2, 1) := by decide +kernel
theorem dL_law_1696 : decode cL_law 1696 = .ok (.invokevirtual 276, 3) := by decide +kernel
theorem dL_law_1699 : decode cL_law 1699 = .ok (.if_icmp .eq 853, 3) := by decide +kernel
theorem dL_law_1702 : decode cL_law 1702 = .ok (.iconst 0, 1) := by decide +kernel
theorem dL_law_1703 : decode cL_law 1703 = .ok (.ireturn, 1) := by decide +kernel
theorem dL_law_1704 : decode cL_law 1704 = .ok (.aload_n 1, 1) := by decide +kernel
theorem dL_law_1705 : decode cL_law 1705 = .ok (.invokevirtual 277, 3) := by decide +kernel
theorem dL_law_1708 : decode cL_law 1708 = .ok (.dstore 5, 2) := by decide +kernel
theorem dL_law_1710 : decode cL_law 1710 = .ok (.aload_n 2, 1) := by decide +kernel
theorem dL_law_1711 : decode cL_law 1711 = .ok (.invokevirtual 281, 3) := by decide +kernel
theorem dL_law_1714 : decode cL_law 1714 = .ok (.dstore 7, 2) := by decide +kernel
theorem dL_law_1716 : decode cL_law 1716 = .ok (.dload 5, 2) := by decide +kernel
theorem dL_law_1718 : decode cL_law 1718 = .ok (.dload 7, 2) := by decide +kernel
theorem dL_law_1720 : decode cL_law 1720 = .ok (.dcmp .l, 1) := by decide +kernel
theorem dL_law_1721 : decode cL_law 1721 = .ok (.ifCond .eq 21, 3) := by decide +kernel
theorem dL_law_1724 : decode cL_law 1724 = .ok (.dload 5, 2) := by decide +kernel
theorem dL_law_1726 : decode cL_law 1726 = .ok (.dload 5, 2) := by decide +kernel
theorem dL_law_1728 : decode cL_law 1728 = .ok (.dcmp .l, 1) := by decide +kernel
theorem dL_law_1729 : decode cL_law 1729 = .ok (.ifCond .eq 11, 3) := by decide +kernel
theorem dL_law_1732 : decode cL_law 1732 = .ok (.dload 7, 2) := by decide +kernel
theorem dL_law_1734 : decode cL_law 1734 = .ok (.dload 7, 2) := by decide +kernel
theorem dL_law_1736 : decode cL_law 1736 = .ok (.dcmp .l, 1) := by decide +kernel
theorem dL_law_1737 : decode cL_law 1737 = .ok (.ifCond .ne 5, 3) := by decide +kernel
theorem dL_law_1740 : decode cL_law 1740 = .ok (.iconst 0, 1) := by decide +kernel
theorem dL_law_1741 : decode cL_law 1741 = .ok (.ireturn, 1) := by decide +kernel
theorem dL_law_1742 : decode cL_law 1742 = .ok (.goto 810, 3) := by decide +kernel
theorem dL_law_1745 : decode cL_law 1745 = .ok (.aload_n 1, 1) := by decide +kernel
theorem dL_law_1746 : decode cL_law 1746 = .ok (.invokevirtual 282, 3) := by decide +kernel
theorem dL_law_1749 : decode cL_law 1749 = .ok (.aload_n 2, 1) := by decide +kernel
theorem dL_law_1750 : decode cL_law 1750 = .ok (.invokevirtual 285, 3) := by decide +kernel
theorem dL_law_1753 : decode cL_law 1753 = .ok (.if_icmp .eq 799, 3) := by decide +kernel
theorem dL_law_1756 : decode cL_law 1756 = .ok (.iconst 0, 1) := by decide +kernel
theorem dL_law_1757 : decode cL_law 1757 = .ok (.ireturn, 1) := by decide +kernel
theorem dL_law_1758 : decode cL_law 1758 = .ok (.aload_n 1, 1) := by decide +kernel
theorem dL_law_1759 : decode cL_law 1759 = .ok (.invokevirtual 286, 3) := by decide +kernel
theorem dL_law_1762 : decode cL_law 1762 = .ok (.aload_n 2, 1) := by decide +kernel
theorem dL_law_1763 : decode cL_law 1763 = .ok (.invokevirtual 289, 3) := by decide +kernel
theorem dL_law_1766 : decode cL_law 1766 = .ok (.if_icmp .eq 786, 3) := by decide +kernel
theorem dL_law_1769 : decode cL_law 1769 = .ok (.iconst 0, 1) := by decide +kernel
theorem dL_law_1770 : decode cL_law 1770 = .ok (.ireturn, 1) := by decide +kernel
theorem dL_law_1771 : decode cL_law 1771 = .ok (.aload_n 1, 1) := by decide +kernel
theorem dL_law_1772 : decode cL_law 1772 = .ok (.aload_n 0, 1) := by decide +kernel
theorem dL_law_1773 : decode cL_law 1773 = .ok (.iload 4, 2) := by decide +kernel
theorem dL_law_1775 : decode cL_law 1775 = .ok (.iconst 1, 1) := by decide +kernel
theorem dL_law_1776 : decode cL_law 1776 = .ok (.iadd, 1) := by decide +kernel
theorem dL_law_1777 : decode cL_law 1777 = .ok (.iaload, 1) := by decide +kernel
theorem dL_law_1778 : decode cL_law 1778 = .ok (.aload_n 3, 1) := by decide +kernel
theorem dL_law_1779 : decode cL_law 1779 = .ok (.invokestatic 290, 3) := by decide +kernel
theorem dL_law_1782 : decode cL_law 1782 = .ok (.istore 5, 2) := by decide +kernel
theorem dL_law_1784 : decode cL_law 1784 = .ok (.aload_n 2, 1) := by decide +kernel
theorem dL_law_1785 : decode cL_law 1785 = .ok (.aload_n 0, 1) := by decide +kernel
theorem dL_law_1786 : decode cL_law 1786 = .ok (.iload 4, 2) := by decide +kernel
theorem dL_law_1788 : decode cL_law 1788 = .ok (.iconst 1, 1) := by decide +kernel
theorem dL_law_1789 : decode cL_law 1789 = .ok (.iadd, 1) := by decide +kernel
theorem dL_law_1790 : decode cL_law 1790 = .ok (.iaload, 1) := by decide +kernel
theorem dL_law_1791 : decode cL_law 1791 = .ok (.invokevirtual 292, 3) := by decide +kernel
theorem dL_law_1794 : decode cL_law 1794 = .ok (.istore 6, 2) := by decide +kernel
theorem dL_law_1796 : decode cL_law 1796 = .ok (.aload_n 2, 1) := by decide +kernel
theorem dL_law_1797 : decode cL_law 1797 = .ok (.invokevirtual 126, 3) := by decide +kernel
theorem dL_law_1800 : decode cL_law 1800 = .ok (.iload 5, 2) := by decide +kernel
theorem dL_law_1802 : decode cL_law 1802 = .ok (.if_icmp .eq 5, 3) := by decide +kernel
theorem dL_law_1805 : decode cL_law 1805 = .ok (.iconst 0, 1) := by decide +kernel
theorem dL_law_1806 : decode cL_law 1806 = .ok (.ireturn, 1) := by decide +kernel
theorem dL_law_1807 : decode cL_law 1807 = .ok (.iload 5, 2) := by decide +kernel
theorem dL_law_1809 : decode cL_law 1809 = .ok (.ifCond .ne 15, 3) := by decide +kernel
theorem dL_law_1812 : decode cL_law 1812 = .ok (.aload_n 3, 1) := by decide +kernel
theorem dL_law_1813 : decode cL_law 1813 = .ok (.iconst 0, 1) := by decide +kernel
theorem dL_law_1814 : decode cL_law 1814 = .ok (.laload, 1) := by decide +kernel
theorem dL_law_1815 : decode cL_law 1815 = .ok (.iload 6, 2) := by decide +kernel
theorem dL_law_1817 : decode cL_law 1817 = .ok (.i2l, 1) := by decide +kernel
theorem dL_law_1818 : decode cL_law 1818 = .ok (.lcmp, 1) := by decide +kernel
theorem dL_law_1819 : decode cL_law 1819 = .ok (.ifCond .eq 5, 3) := by decide +kernel
theorem dL_law_1822 : decode cL_law 1822 = .ok (.iconst 0, 1) := by decide +kernel
theorem dL_law_1823 : decode cL_law 1823 = .ok (.ireturn, 1) := by decide +kernel
theorem dL_law_1824 : decode cL_law 1824 = .ok (.goto 728, 3) := by decide +kernel
theorem dL_law_1827 : decode cL_law 1827 = .ok (.aload_n 1, 1) := by decide +kernel
theorem dL_law_1828 : decode cL_law 1828 = .ok (.aload_n 0, 1) := by decide +kernel
theorem dL_law_1829 : decode cL_law 1829 = .ok (.iload 4, 2) := by decide +kernel
theorem dL_law_1831 : decode cL_law 1831 = .ok (.iconst 1, 1) := by decide +kernel
theorem dL_law_1832 : decode cL_law 1832 = .ok (.iadd, 1) := by decide +kernel
theorem dL_law_1833 : decode cL_law 1833 = .ok (.iaload, 1) := by decide +kernel
theorem dL_law_1834 : decode cL_law 1834 = .ok (.aload_n 3, 1) := by decide +kernel
theorem dL_law_1835 : decode cL_law 1835 = .ok (.invokestatic 293, 3) := by decide +kernel
theorem dL_law_1838 : decode cL_law 1838 = .ok (.istore 5, 2) := by decide +kernel
theorem dL_law_1840 : decode cL_law 1840 = .ok (.aload_n 2, 1) := by decide +kernel
theorem dL_law_1841 : decode cL_law 1841 = .ok (.aload_n 0, 1) := by decide +kernel
theorem dL_law_1842 : decode cL_law 1842 = .ok (.iload 4, 2) := by decide +kernel
theorem dL_law_1844 : decode cL_law 1844 = .ok (.iconst 1, 1) := by decide +kernel
theorem dL_law_1845 : decode cL_law 1845 = .ok (.iadd, 1) := by decide +kernel
theorem dL_law_1846 : decode cL_law 1846 = .ok (.iaload, 1) := by decide +kernel
theorem dL_law_1847 : decode cL_law 1847 = .ok (.invokevirtual 295, 3) := by decide +kernel
theorem dL_law_1850 : decode cL_law 1850 = .ok (.istore 6, 2) := by decide +kernel
theorem dL_law_1852 : decode cL_law 1852 = .ok (.aload_n 2, 1) := by decide +kernel
theorem dL_law_1853 : decode cL_law 1853 = .ok (.invokevirtual 126, 3) := by decide +kernel
theorem dL_law_1856 : decode cL_law 1856 = .ok (.iload 5, 2) := by decide +kernel
theorem dL_law_1858 : decode cL_law 1858 = .ok (.if_icmp .eq 5, 3) := by decide +kernel
theorem dL_law_1861 : decode cL_law 1861 = .ok (.iconst 0, 1) := by decide +kernel
theorem dL_law_1862 : decode cL_law 1862 = .ok (.ireturn, 1) := by decide +kernel
theorem dL_law_1863 : decode cL_law 1863 = .ok (.iload 5, 2) := by decide +kernel
theorem dL_law_1865 : decode cL_law 1865 = .ok (.ifCond .ne 15, 3) := by decide +kernel
theorem dL_law_1868 : decode cL_law 1868 = .ok (.aload_n 3, 1) := by decide +kernel
theorem dL_law_1869 : decode cL_law 1869 = .ok (.iconst 0, 1) := by decide +kernel
theorem dL_law_1870 : decode cL_law 1870 = .ok (.laload, 1) := by decide +kernel
theorem dL_law_1871 : decode cL_law 1871 = .ok (.iload 6, 2) := by decide +kernel
theorem dL_law_1873 : decode cL_law 1873 = .ok (.i2l, 1) := by decide +kernel
theorem dL_law_1874 : decode cL_law 1874 = .ok (.lcmp, 1) := by decide +kernel
theorem dL_law_1875 : decode cL_law 1875 = .ok (.ifCond .eq 5, 3) := by decide +kernel
theorem dL_law_1878 : decode cL_law 1878 = .ok (.iconst 0, 1) := by decide +kernel
theorem dL_law_1879 : decode cL_law 1879 = .ok (.ireturn, 1) := by decide +kernel
theorem dL_law_1880 : decode cL_law 1880 = .ok (.goto 672, 3) := by decide +kernel
theorem dL_law_1883 : decode cL_law 1883 = .ok (.aload_n 1, 1) := by decide +kernel
theorem dL_law_1884 : decode cL_law 1884 = .ok (.aload_n 0, 1) := by decide +kernel
theorem dL_law_1885 : decode cL_law 1885 = .ok (.iload 4, 2) := by decide +kernel
theorem dL_law_1887 : decode cL_law 1887 = .ok (.iconst 1, 1) := by decide +kernel
theorem dL_law_1888 : decode cL_law 1888 = .ok (.iadd, 1) := by decide +kernel
theorem dL_law_1889 : decode cL_law 1889 = .ok (.iaload, 1) := by decide +kernel
theorem dL_law_1890 : decode cL_law 1890 = .ok (.aload_n 3, 1) := by decide +kernel
theorem dL_law_1891 : decode cL_law 1891 = .ok (.invokestatic 296, 3) := by decide +kernel
theorem dL_law_1894 : decode cL_law 1894 = .ok (.istore 5, 2) := by decide +kernel
theorem dL_law_1896 : decode cL_law 1896 = .ok (.aload_n 2, 1) := by decide +kernel
theorem dL_law_1897 : decode cL_law 1897 = .ok (.aload_n 0, 1) := by decide +kernel
theorem dL_law_1898 : decode cL_law 1898 = .ok (.iload 4, 2) := by decide +kernel
theorem dL_law_1900 : decode cL_law 1900 = .ok (.iconst 1, 1) := by decide +kernel
theorem dL_law_1901 : decode cL_law 1901 = .ok (.iadd, 1) := by decide +kernel
theorem dL_law_1902 : decode cL_law 1902 = .ok (.iaload, 1) := by decide +kernel
theorem dL_law_1903 : decode cL_law 1903 = .ok (.invokevirtual 298, 3) := by decide +kernel
theorem dL_law_1906 : decode cL_law 1906 = .ok (.istore 6, 2) := by decide +kernel
theorem dL_law_1908 : decode cL_law 1908 = .ok (.aload_n 2, 1) := by decide +kernel
theorem dL_law_1909 : decode cL_law 1909 = .ok (.invokevirtual 126, 3) := by decide +kernel
theorem dL_law_1912 : decode cL_law 1912 = .ok (.iload 5, 2) := by decide +kernel
theorem dL_law_1914 : decode cL_law 1914 = .ok (.if_icmp .eq 5, 3) := by decide +kernel
theorem dL_law_1917 : decode cL_law 1917 = .ok (.iconst 0, 1) := by decide +kernel
theorem dL_law_1918 : decode cL_law 1918 = .ok (.ireturn, 1) := by decide +kernel
theorem dL_law_1919 : decode cL_law 1919 = .ok (.iload 5, 2) := by decide +kernel
theorem dL_law_1921 : decode cL_law 1921 = .ok (.ifCond .ne 15, 3) := by decide +kernel
theorem dL_law_1924 : decode cL_law 1924 = .ok (.aload_n 3, 1) := by decide +kernel
theorem dL_law_1925 : decode cL_law 1925 = .ok (.iconst 0, 1) := by decide +kernel
theorem dL_law_1926 : decode cL_law 1926 = .ok (.laload, 1) := by decide +kernel
theorem dL_law_1927 : decode cL_law 1927 = .ok (.iload 6, 2) := by decide +kernel
theorem dL_law_1929 : decode cL_law 1929 = .ok (.i2l, 1) := by decide +kernel
theorem dL_law_1930 : decode cL_law 1930 = .ok (.lcmp, 1) := by decide +kernel
theorem dL_law_1931 : decode cL_law 1931 = .ok (.ifCond .eq 5, 3) := by decide +kernel
theorem dL_law_1934 : decode cL_law 1934 = .ok (.iconst 0, 1) := by decide +kernel
theorem dL_law_1935 : decode cL_law 1935 = .ok (.ireturn, 1) := by decide +kernel
theorem dL_law_1936 : decode cL_law 1936 = .ok (.goto 616, 3) := by decide +kernel
theorem dL_law_1939 : decode cL_law 1939 = .ok (.aload_n 1, 1) := by decide +kernel
theorem dL_law_1940 : decode cL_law 1940 = .ok (.invokevirtual 299, 3) := by decide +kernel
theorem dL_law_1943 : decode cL_law 1943 = .ok (.aload_n 2, 1) := by decide +kernel
theorem dL_law_1944 : decode cL_law 1944 = .ok (.invokevirtual 302, 3) := by decide +kernel
theorem dL_law_1947 : decode cL_law 1947 = .ok (.if_icmp .eq 605, 3) := by decide +kernel
theorem dL_law_1950 : decode cL_law 1950 = .ok (.iconst 0, 1) := by decide +kernel
theorem dL_law_1951 : decode cL_law 1951 = .ok (.ireturn, 1) := by decide +kernel
theorem dL_law_1952 : decode cL_law 1952 = .ok (.aload_n 1, 1) := by decide +kernel
theorem dL_law_1953 : decode cL_law 1953 = .ok (.aload_n 0, 1) := by decide +kernel
theorem dL_law_1954 : decode cL_law 1954 = .ok (.iload 4, 2) := by decide +kernel
theorem dL_law_1956 : decode cL_law 1956 = .ok (.iconst 1, 1) := by decide +kernel
theorem dL_law_1957 : decode cL_law 1957 = .ok (.iadd, 1) := by decide +kernel
theorem dL_law_1958 : decode cL_law 1958 = .ok (.iaload, 1) := by decide +kernel
theorem dL_law_1959 : decode cL_law 1959 = .ok (.aload_n 3, 1) := by decide +kernel
theorem dL_law_1960 : decode cL_law 1960 = .ok (.invokestatic 303, 3) := by decide +kernel
theorem dL_law_1963 : decode cL_law 1963 = .ok (.istore 5, 2) := by decide +kernel
theorem dL_law_1965 : decode cL_law 1965 = .ok (.aload_n 2, 1) := by decide +kernel
theorem dL_law_1966 : decode cL_law 1966 = .ok (.aload_n 0, 1) := by decide +kernel
theorem dL_law_1967 : decode cL_law 1967 = .ok (.iload 4, 2) := by decide +kernel
theorem dL_law_1969 : decode cL_law 1969 = .ok (.iconst 1, 1) := by decide +kernel
theorem dL_law_1970 : decode cL_law 1970 = .ok (.iadd, 1) := by decide +kernel
theorem dL_law_1971 : decode cL_law 1971 = .ok (.iaload, 1) := by decide +kernel
theorem dL_law_1972 : decode cL_law 1972 = .ok (.invokevirtual 305, 3) := by decide +kernel
theorem dL_law_1975 : decode cL_law 1975 = .ok (.istore 6, 2) := by decide +kernel
theorem dL_law_1977 : decode cL_law 1977 = .ok (.aload_n 2, 1) := by decide +kernel
theorem dL_law_1978 : decode cL_law 1978 = .ok (.invokevirtual 126, 3) := by decide +kernel
theorem dL_law_1981 : decode cL_law 1981 = .ok (.iload 5, 2) := by decide +kernel
theorem dL_law_1983 : decode cL_law 1983 = .ok (.if_icmp .eq 5, 3) := by decide +kernel
theorem dL_law_1986 : decode cL_law 1986 = .ok (.iconst 0, 1) := by decide +kernel
theorem dL_law_1987 : decode cL_law 1987 = .ok (.ireturn, 1) := by decide +kernel
theorem dL_law_1988 : decode cL_law 1988 = .ok (.iload 5, 2) := by decide +kernel
theorem dL_law_1990 : decode cL_law 1990 = .ok (.ifCond .ne 15, 3) := by decide +kernel
theorem dL_law_1993 : decode cL_law 1993 = .ok (.aload_n 3, 1) := by decide +kernel
theorem dL_law_1994 : decode cL_law 1994 = .ok (.iconst 0, 1) := by decide +kernel
theorem dL_law_1995 : decode cL_law 1995 = .ok (.laload, 1) := by decide +kernel
theorem dL_law_1996 : decode cL_law 1996 = .ok (.iload 6, 2) := by decide +kernel
theorem dL_law_1998 : decode cL_law 1998 = .ok (.i2l, 1) := by decide +kernel
theorem dL_law_1999 : decode cL_law 1999 = .ok (.lcmp, 1) := by decide +kernel
theorem dL_law_2000 : decode cL_law 2000 = .ok (.ifCond .eq 5, 3) := by decide +kernel
theorem dL_law_2003 : decode cL_law 2003 = .ok (.iconst 0, 1) := by decide +kernel
theorem dL_law_2004 : decode cL_law 2004 = .ok (.ireturn, 1) := by decide +kernel
theorem dL_law_2005 : decode cL_law 2005 = .ok (.goto 547, 3) := by decide +kernel
theorem dL_law_2008 : decode cL_law 2008 = .ok (.aload_n 1, 1) := by decide +kernel
theorem dL_law_2009 : decode cL_law 2009 = .ok (.aload_n 0, 1) := by decide +kernel
theorem dL_law_2010 : decode cL_law 2010 = .ok (.iload 4, 2) := by decide +kernel
theorem dL_law_2012 : decode cL_law 2012 = .ok (.iconst 1, 1) := by decide +kernel
theorem dL_law_2013 : decode cL_law 2013 = .ok (.iadd, 1) := by decide +kernel
theorem dL_law_2014 : decode cL_law 2014 = .ok (.iaload, 1) := by decide +kernel
theorem dL_law_2015 : decode cL_law 2015 = .ok (.aload_n 3, 1) := by decide +kernel
theorem dL_law_2016 : decode cL_law 2016 = .ok (.invokestatic 306, 3) := by decide +kernel
theorem dL_law_2019 : decode cL_law 2019 = .ok (.istore 5, 2) := by decide +kernel
theorem dL_law_2021 : decode cL_law 2021 = .ok (.aload_n 2, 1) := by decide +kernel
theorem dL_law_2022 : decode cL_law 2022 = .ok (.aload_n 0, 1) := by decide +kernel
theorem dL_law_2023 : decode cL_law 2023 = .ok (.iload 4, 2) := by decide +kernel
theorem dL_law_2025 : decode cL_law 2025 = .ok (.iconst 1, 1) := by decide +kernel
theorem dL_law_2026 : decode cL_law 2026 = .ok (.iadd, 1) := by decide +kernel
theorem dL_law_2027 : decode cL_law 2027 = .ok (.iaload, 1) := by decide +kernel
theorem dL_law_2028 : decode cL_law 2028 = .ok (.invokevirtual 308, 3) := by decide +kernel
theorem dL_law_2031 : decode cL_law 2031 = .ok (.istore 6, 2) := by decide +kernel
theorem dL_law_2033 : decode cL_law 2033 = .ok (.aload_n 2, 1) := by decide +kernel
theorem dL_law_2034 : decode cL_law 2034 = .ok (.invokevirtual 126, 3) := by decide +kernel
theorem dL_law_2037 : decode cL_law 2037 = .ok (.iload 5, 2) := by decide +kernel
theorem dL_law_2039 : decode cL_law 2039 = .ok (.if_icmp .eq 5, 3) := by decide +kernel
theorem dL_law_2042 : decode cL_law 2042 = .ok (.iconst 0, 1) := by decide +kernel
theorem dL_law_2043 : decode cL_law 2043 = .ok (.ireturn, 1) := by decide +kernel
theorem dL_law_2044 : decode cL_law 2044 = .ok (.iload 5, 2) := by decide +kernel
theorem dL_law_2046 : decode cL_law 2046 = .ok (.ifCond .ne 15, 3) := by decide +kernel
theorem dL_law_2049 : decode cL_law 2049 = .ok (.aload_n 3, 1) := by decide +kernel
theorem dL_law_2050 : decode cL_law 2050 = .ok (.iconst 0, 1) := by decide +kernel
theorem dL_law_2051 : decode cL_law 2051 = .ok (.laload, 1) := by decide +kernel
theorem dL_law_2052 : decode cL_law 2052 = .ok (.iload 6, 2) := by decide +kernel
theorem dL_law_2054 : decode cL_law 2054 = .ok (.i2l, 1) := by decide +kernel
theorem dL_law_2055 : decode cL_law 2055 = .ok (.lcmp, 1) := by decide +kernel
theorem dL_law_2056 : decode cL_law 2056 = .ok (.ifCond .eq 5, 3) := by decide +kernel
theorem dL_law_2059 : decode cL_law 2059 = .ok (.iconst 0, 1) := by decide +kernel
theorem dL_law_2060 : decode cL_law 2060 = .ok (.ireturn, 1) := by decide +kernel
theorem dL_law_2061 : decode cL_law 2061 = .ok (.goto 491, 3) := by decide +kernel
theorem dL_law_2064 : decode cL_law 2064 = .ok (.aload_n 1, 1) := by decide +kernel
theorem dL_law_2065 : decode cL_law 2065 = .ok (.aload_n 0, 1) := by decide +kernel
theorem dL_law_2066 : decode cL_law 2066 = .ok (.iload 4, 2) := by decide +kernel
theorem dL_law_2068 : decode cL_law 2068 = .ok (.iconst 1, 1) := by decide +kernel
theorem dL_law_2069 : decode cL_law 2069 = .ok (.iadd, 1) := by decide +kernel
theorem dL_law_2070 : decode cL_law 2070 = .ok (.iaload, 1) := by decide +kernel
theorem dL_law_2071 : decode cL_law 2071 = .ok (.aload_n 0, 1) := by decide +kernel
theorem dL_law_2072 : decode cL_law 2072 = .ok (.iload 4, 2) := by decide +kernel
theorem dL_law_2074 : decode cL_law 2074 = .ok (.iconst 2, 1) := by decide +kernel
theorem dL_law_2075 : decode cL_law 2075 = .ok (.iadd, 1) := by decide +kernel
theorem dL_law_2076 : decode cL_law 2076 = .ok (.iaload, 1) := by decide +kernel
theorem dL_law_2077 : decode cL_law 2077 = .ok (.aload_n 0, 1) := by decide +kernel
theorem dL_law_2078 : decode cL_law 2078 = .ok (.iload 4, 2) := by decide +kernel
theorem dL_law_2080 : decode cL_law 2080 = .ok (.iconst 3, 1) := by decide +kernel
theorem dL_law_2081 : decode cL_law 2081 = .ok (.iadd, 1) := by decide +kernel
theorem dL_law_2082 : decode cL_law 2082 = .ok (.iaload, 1) := by decide +kernel
theorem dL_law_2083 : decode cL_law 2083 = .ok (.aload_n 3, 1) := by decide +kernel
theorem dL_law_2084 : decode cL_law 2084 = .ok (.invokestatic 309, 3) := by decide +kernel
theorem dL_law_2087 : decode cL_law 2087 = .ok (.istore 5, 2) := by decide +kernel
theorem dL_law_2089 : decode cL_law 2089 = .ok (.aload_n 2, 1) := by decide +kernel
theorem dL_law_2090 : decode cL_law 2090 = .ok (.aload_n 0, 1) := by decide +kernel
theorem dL_law_2091 : decode cL_law 2091 = .ok (.iload 4, 2) := by decide +kernel
theorem dL_law_2093 : decode cL_law 2093 = .ok (.iconst 1, 1) := by decide +kernel
theorem dL_law_2094 : decode cL_law 2094 = .ok (.iadd, 1) := by decide +kernel
theorem dL_law_2095 : decode cL_law 2095 = .ok (.iaload, 1) := by decide +kernel
theorem dL_law_2096 : decode cL_law 2096 = .ok (.aload_n 0, 1) := by decide +kernel
theorem dL_law_2097 : decode cL_law 2097 = .ok (.iload 4, 2) := by decide +kernel
theorem dL_law_2099 : decode cL_law 2099 = .ok (.iconst 2, 1) := by decide +kernel
theorem dL_law_2100 : decode cL_law 2100 = .ok (.iadd, 1) := by decide +kernel
theorem dL_law_2101 : decode cL_law 2101 = .ok (.iaload, 1) := by decide +kernel
theorem dL_law_2102 : decode cL_law 2102 = .ok (.aload_n 0, 1) := by decide +kernel
theorem dL_law_2103 : decode cL_law 2103 = .ok (.iload 4, 2) := by decide +kernel
theorem dL_law_2105 : decode cL_law 2105 = .ok (.iconst 3, 1) := by decide +kernel
theorem dL_law_2106 : decode cL_law 2106 = .ok (.iadd, 1) := by decide +kernel
theorem dL_law_2107 : decode cL_law 2107 = .ok (.iaload, 1) := by decide +kernel
theorem dL_law_2108 : decode cL_law 2108 = .ok (.invokevirtual 312, 3) := by decide +kernel
theorem dL_law_2111 : decode cL_law 2111 = .ok (.istore 6, 2) := by decide +kernel
theorem dL_law_2113 : decode cL_law 2113 = .ok (.aload_n 2, 1) := by decide +kernel
theorem dL_law_2114 : decode cL_law 2114 = .ok (.invokevirtual 126, 3) := by decide +kernel
theorem dL_law_2117 : decode cL_law 2117 = .ok (.iload 5, 2) := by decide +kernel
theorem dL_law_2119 : decode cL_law 2119 = .ok (.if_icmp .eq 5, 3) := by decide +kernel
theorem dL_law_2122 : decode cL_law 2122 = .ok (.iconst 0, 1) := by decide +kernel
theorem dL_law_2123 : decode cL_law 2123 = .ok (.ireturn, 1) := by decide +kernel
theorem dL_law_2124 : decode cL_law 2124 = .ok (.iload 5, 2) := by decide +kernel
theorem dL_law_2126 : decode cL_law 2126 = .ok (.ifCond .ne 15, 3) := by decide +kernel
theorem dL_law_2129 : decode cL_law 2129 = .ok (.aload_n 3, 1) := by decide +kernel
theorem dL_law_2130 : decode cL_law 2130 = .ok (.iconst 0, 1) := by decide +kernel
theorem dL_law_2131 : decode cL_law 2131 = .ok (.laload, 1) := by decide +kernel
theorem dL_law_2132 : decode cL_law 2132 = .ok (.iload 6, 2) := by decide +kernel
theorem dL_law_2134 : decode cL_law 2134 = .ok (.i2l, 1) := by decide +kernel
theorem dL_law_2135 : decode cL_law 2135 = .ok (.lcmp, 1) := by decide +kernel
theorem dL_law_2136 : decode cL_law 2136 = .ok (.ifCond .eq 5, 3) := by decide +kernel
theorem dL_law_2139 : decode cL_law 2139 = .ok (.iconst 0, 1) := by decide +kernel
theorem dL_law_2140 : decode cL_law 2140 = .ok (.ireturn, 1) := by decide +kernel
theorem dL_law_2141 : decode cL_law 2141 = .ok (.goto 411, 3) := by decide +kernel
theorem dL_law_2144 : decode cL_law 2144 = .ok (.aload_n 1, 1) := by decide +kernel
theorem dL_law_2145 : decode cL_law 2145 = .ok (.aload_n 0, 1) := by decide +kernel
theorem dL_law_2146 : decode cL_law 2146 = .ok (.iload 4, 2) := by decide +kernel
theorem dL_law_2148 : decode cL_law 2148 = .ok (.iconst 1, 1) := by decide +kernel
theorem dL_law_2149 : decode cL_law 2149 = .ok (.iadd, 1) := by decide +kernel
theorem dL_law_2150 : decode cL_law 2150 = .ok (.iaload, 1) := by decide +kernel
theorem dL_law_2151 : decode cL_law 2151 = .ok (.aload_n 3, 1) := by decide +kernel
theorem dL_law_2152 : decode cL_law 2152 = .ok (.invokestatic 313, 3) := by decide +kernel
theorem dL_law_2155 : decode cL_law 2155 = .ok (.istore 5, 2) := by decide +kernel
theorem dL_law_2157 : decode cL_law 2157 = .ok (.aload_n 2, 1) := by decide +kernel
theorem dL_law_2158 : decode cL_law 2158 = .ok (.aload_n 0, 1) := by decide +kernel
theorem dL_law_2159 : decode cL_law 2159 = .ok (.iload 4, 2) := by decide +kernel
theorem dL_law_2161 : decode cL_law 2161 = .ok (.iconst 1, 1) := by decide +kernel
theorem dL_law_2162 : decode cL_law 2162 = .ok (.iadd, 1) := by decide +kernel
theorem dL_law_2163 : decode cL_law 2163 = .ok (.iaload, 1) := by decide +kernel
theorem dL_law_2164 : decode cL_law 2164 = .ok (.invokevirtual 315, 3) := by decide +kernel
theorem dL_law_2167 : decode cL_law 2167 = .ok (.istore 6, 2) := by decide +kernel
theorem dL_law_2169 : decode cL_law 2169 = .ok (.aload_n 2, 1) := by decide +kernel
theorem dL_law_2170 : decode cL_law 2170 = .ok (.invokevirtual 126, 3) := by decide +kernel
theorem dL_law_2173 : decode cL_law 2173 = .ok (.iload 5, 2) := by decide +kernel
theorem dL_law_2175 : decode cL_law 2175 = .ok (.if_icmp .eq 5, 3) := by decide +kernel
theorem dL_law_2178 : decode cL_law 2178 = .ok (.iconst 0, 1) := by decide +kernel
theorem dL_law_2179 : decode cL_law 2179 = .ok (.ireturn, 1) := by decide +kernel
theorem dL_law_2180 : decode cL_law 2180 = .ok (.iload 5, 2) := by decide +kernel
theorem dL_law_2182 : decode cL_law 2182 = .ok (.ifCond .ne 15, 3) := by decide +kernel
theorem dL_law_2185 : decode cL_law 2185 = .ok (.aload_n 3, 1) := by decide +kernel
theorem dL_law_2186 : decode cL_law 2186 = .ok (.iconst 0, 1) := by decide +kernel
theorem dL_law_2187 : decode cL_law 2187 = .ok (.laload, 1) := by decide +kernel
theorem dL_law_2188 : decode cL_law 2188 = .ok (.iload 6, 2) := by decide +kernel
theorem dL_law_2190 : decode cL_law 2190 = .ok (.i2l, 1) := by decide +kernel
theorem dL_law_2191 : decode cL_law 2191 = .ok (.lcmp, 1) := by decide +kernel
theorem dL_law_2192 : decode cL_law 2192 = .ok (.ifCond .eq 5, 3) := by decide +kernel
theorem dL_law_2195 : decode cL_law 2195 = .ok (.iconst 0, 1) := by decide +kernel
theorem dL_law_2196 : decode cL_law 2196 = .ok (.ireturn, 1) := by decide +kernel
theorem dL_law_2197 : decode cL_law 2197 = .ok (.goto 355, 3) := by decide +kernel
theorem dL_law_2200 : decode cL_law 2200 = .ok (.aload_n 1, 1) := by decide +kernel
theorem dL_law_2201 : decode cL_law 2201 = .ok (.invokevirtual 316, 3) := by decide +kernel
theorem dL_law_2204 : decode cL_law 2204 = .ok (.aload_n 2, 1) := by decide +kernel
theorem dL_law_2205 : decode cL_law 2205 = .ok (.invokevirtual 319, 3) := by decide +kernel
theorem dL_law_2208 : decode cL_law 2208 = .ok (.if_icmp .eq 344, 3) := by decide +kernel
theorem dL_law_2211 : decode cL_law 2211 = .ok (.iconst 0, 1) := by decide +kernel
theorem dL_law_2212 : decode cL_law 2212 = .ok (.ireturn, 1) := by decide +kernel
theorem dL_law_2213 : decode cL_law 2213 = .ok (.aload_n 1, 1) := by decide +kernel
theorem dL_law_2214 : decode cL_law 2214 = .ok (.aload_n 0, 1) := by decide +kernel
theorem dL_law_2215 : decode cL_law 2215 = .ok (.iload 4, 2) := by decide +kernel
theorem dL_law_2217 : decode cL_law 2217 = .ok (.iconst 1, 1) := by decide +kernel
theorem dL_law_2218 : decode cL_law 2218 = .ok (.iadd, 1) := by decide +kernel
theorem dL_law_2219 : decode cL_law 2219 = .ok (.iaload, 1) := by decide +kernel
theorem dL_law_2220 : decode cL_law 2220 = .ok (.aload_n 3, 1) := by decide +kernel
theorem dL_law_2221 : decode cL_law 2221 = .ok (.invokestatic 320, 3) := by decide +kernel
theorem dL_law_2224 : decode cL_law 2224 = .ok (.istore 5, 2) := by decide +kernel
theorem dL_law_2226 : decode cL_law 2226 = .ok (.aload_n 2, 1) := by decide +kernel
theorem dL_law_2227 : decode cL_law 2227 = .ok (.aload_n 0, 1) := by decide +kernel
theorem dL_law_2228 : decode cL_law 2228 = .ok (.iload 4, 2) := by decide +kernel
theorem dL_law_2230 : decode cL_law 2230 = .ok (.iconst 1, 1) := by decide +kernel
theorem dL_law_2231 : decode cL_law 2231 = .ok (.iadd, 1) := by decide +kernel
theorem dL_law_2232 : decode cL_law 2232 = .ok (.iaload, 1) := by decide +kernel
theorem dL_law_2233 : decode cL_law 2233 = .ok (.invokevirtual 322, 3) := by decide +kernel
theorem dL_law_2236 : decode cL_law 2236 = .ok (.istore 6, 2) := by decide +kernel
theorem dL_law_2238 : decode cL_law 2238 = .ok (.aload_n 2, 1) := by decide +kernel
theorem dL_law_2239 : decode cL_law 2239 = .ok (.invokevirtual 126, 3) := by decide +kernel
theorem dL_law_2242 : decode cL_law 2242 = .ok (.iload 5, 2) := by decide +kernel
theorem dL_law_2244 : decode cL_law 2244 = .ok (.if_icmp .eq 5, 3) := by decide +kernel
theorem dL_law_2247 : decode cL_law 2247 = .ok (.iconst 0, 1) := by decide +kernel
theorem dL_law_2248 : decode cL_law 2248 = .ok (.ireturn, 1) := by decide +kernel
theorem dL_law_2249 : decode cL_law 2249 = .ok (.iload 5, 2) := by decide +kernel
theorem dL_law_2251 : decode cL_law 2251 = .ok (.ifCond .ne 15, 3) := by decide +kernel
theorem dL_law_2254 : decode cL_law 2254 = .ok (.aload_n 3, 1) := by decide +kernel
theorem dL_law_2255 : decode cL_law 2255 = .ok (.iconst 0, 1) := by decide +kernel
theorem dL_law_2256 : decode cL_law 2256 = .ok (.laload, 1) := by decide +kernel
theorem dL_law_2257 : decode cL_law 2257 = .ok (.iload 6, 2) := by decide +kernel
theorem dL_law_2259 : decode cL_law 2259 = .ok (.i2l, 1) := by decide +kernel
theorem dL_law_2260 : decode cL_law 2260 = .ok (.lcmp, 1) := by decide +kernel
theorem dL_law_2261 : decode cL_law 2261 = .ok (.ifCond .eq 5, 3) := by decide +kernel
theorem dL_law_2264 : decode cL_law 2264 = .ok (.iconst 0, 1) := by decide +kernel
theorem dL_law_2265 : decode cL_law 2265 = .ok (.ireturn, 1) := by decide +kernel
theorem dL_law_2266 : decode cL_law 2266 = .ok (.goto 286, 3) := by decide +kernel
theorem dL_law_2269 : decode cL_law 2269 = .ok (.aload_n 1, 1) := by decide +kernel
theorem dL_law_2270 : decode cL_law 2270 = .ok (.aload_n 0, 1) := by decide +kernel
theorem dL_law_2271 : decode cL_law 2271 = .ok (.iload 4, 2) := by decide +kernel
theorem dL_law_2273 : decode cL_law 2273 = .ok (.iconst 1, 1) := by decide +kernel
theorem dL_law_2274 : decode cL_law 2274 = .ok (.iadd, 1) := by decide +kernel
theorem dL_law_2275 : decode cL_law 2275 = .ok (.iaload, 1) := by decide +kernel
theorem dL_law_2276 : decode cL_law 2276 = .ok (.aload_n 3, 1) := by decide +kernel
theorem dL_law_2277 : decode cL_law 2277 = .ok (.invokestatic 323, 3) := by decide +kernel
theorem dL_law_2280 : decode cL_law 2280 = .ok (.istore 5, 2) := by decide +kernel
theorem dL_law_2282 : decode cL_law 2282 = .ok (.aload_n 2, 1) := by decide +kernel
theorem dL_law_2283 : decode cL_law 2283 = .ok (.aload_n 0, 1) := by decide +kernel
theorem dL_law_2284 : decode cL_law 2284 = .ok (.iload 4, 2) := by decide +kernel
theorem dL_law_2286 : decode cL_law 2286 = .ok (.iconst 1, 1) := by decide +kernel
theorem dL_law_2287 : decode cL_law 2287 = .ok (.iadd, 1) := by decide +kernel
theorem dL_law_2288 : decode cL_law 2288 = .ok (.iaload, 1) := by decide +kernel
theorem dL_law_2289 : decode cL_law 2289 = .ok (.invokevirtual 325, 3) := by decide +kernel
theorem dL_law_2292 : decode cL_law 2292 = .ok (.istore 6, 2) := by decide +kernel
theorem dL_law_2294 : decode cL_law 2294 = .ok (.aload_n 2, 1) := by decide +kernel
theorem dL_law_2295 : decode cL_law 2295 = .ok (.invokevirtual 126, 3) := by decide +kernel
theorem dL_law_2298 : decode cL_law 2298 = .ok (.iload 5, 2) := by decide +kernel
theorem dL_law_2300 : decode cL_law 2300 = .ok (.if_icmp .eq 5, 3) := by decide +kernel
theorem dL_law_2303 : decode cL_law 2303 = .ok (.iconst 0, 1) := by decide +kernel
theorem dL_law_2304 : decode cL_law 2304 = .ok (.ireturn, 1) := by decide +kernel
theorem dL_law_2305 : decode cL_law 2305 = .ok (.iload 5, 2) := by decide +kernel
theorem dL_law_2307 : decode cL_law 2307 = .ok (.ifCond .ne 15, 3) := by decide +kernel
theorem dL_law_2310 : decode cL_law 2310 = .ok (.aload_n 3, 1) := by decide +kernel
theorem dL_law_2311 : decode cL_law 2311 = .ok (.iconst 0, 1) := by decide +kernel
theorem dL_law_2312 : decode cL_law 2312 = .ok (.laload, 1) := by decide +kernel
theorem dL_law_2313 : decode cL_law 2313 = .ok (.iload 6, 2) := by decide +kernel
theorem dL_law_2315 : decode cL_law 2315 = .ok (.i2l, 1) := by decide +kernel
theorem dL_law_2316 : decode cL_law 2316 = .ok (.lcmp, 1) := by decide +kernel
theorem dL_law_2317 : decode cL_law 2317 = .ok (.ifCond .eq 5, 3) := by decide +kernel
theorem dL_law_2320 : decode cL_law 2320 = .ok (.iconst 0, 1) := by decide +kernel
theorem dL_law_2321 : decode cL_law 2321 = .ok (.ireturn, 1) := by decide +kernel
theorem dL_law_2322 : decode cL_law 2322 = .ok (.goto 230, 3) := by decide +kernel
theorem dL_law_2325 : decode cL_law 2325 = .ok (.aload_n 1, 1) := by decide +kernel
theorem dL_law_2326 : decode cL_law 2326 = .ok (.aload_n 3, 1) := by decide +kernel
theorem dL_law_2327 : decode cL_law 2327 = .ok (.invokestatic 326, 3) := by decide +kernel
theorem dL_law_2330 : decode cL_law 2330 = .ok (.istore 5, 2) := by decide +kernel
theorem dL_law_2332 : decode cL_law 2332 = .ok (.aload_n 2, 1) := by decide +kernel
theorem dL_law_2333 : decode cL_law 2333 = .ok (.invokevirtual 328, 3) := by decide +kernel
theorem dL_law_2336 : decode cL_law 2336 = .ok (.istore 6, 2) := by decide +kernel
theorem dL_law_2338 : decode cL_law 2338 = .ok (.aload_n 2, 1) := by decide +kernel
theorem dL_law_2339 : decode cL_law 2339 = .ok (.invokevirtual 126, 3) := by decide +kernel
theorem dL_law_2342 : decode cL_law 2342 = .ok (.iload 5, 2) := by decide +kernel
theorem dL_law_2344 : decode cL_law 2344 = .ok (.if_icmp .eq 5, 3) := by decide +kernel
theorem dL_law_2347 : decode cL_law 2347 = .ok (.iconst 0, 1) := by decide +kernel
theorem dL_law_2348 : decode cL_law 2348 = .ok (.ireturn, 1) := by decide +kernel
theorem dL_law_2349 : decode cL_law 2349 = .ok (.iload 5, 2) := by decide +kernel
theorem dL_law_2351 : decode cL_law 2351 = .ok (.ifCond .ne 15, 3) := by decide +kernel
theorem dL_law_2354 : decode cL_law 2354 = .ok (.aload_n 3, 1) := by decide +kernel
theorem dL_law_2355 : decode cL_law 2355 = .ok (.iconst 0, 1) := by decide +kernel
theorem dL_law_2356 : decode cL_law 2356 = .ok (.laload, 1) := by decide +kernel
theorem dL_law_2357 : decode cL_law 2357 = .ok (.iload 6, 2) := by decide +kernel
theorem dL_law_2359 : decode cL_law 2359 = .ok (.i2l, 1) := by decide +kernel
theorem dL_law_2360 : decode cL_law 2360 = .ok (.lcmp, 1) := by decide +kernel
theorem dL_law_2361 : decode cL_law 2361 = .ok (.ifCond .eq 5, 3) := by decide +kernel
theorem dL_law_2364 : decode cL_law 2364 = .ok (.iconst 0, 1) := by decide +kernel
theorem dL_law_2365 : decode cL_law 2365 = .ok (.ireturn, 1) := by decide +kernel
theorem dL_law_2366 : decode cL_law 2366 = .ok (.goto 186, 3) := by decide +kernel
theorem dL_law_2369 : decode cL_law 2369 = .ok (.aload_n 1, 1) := by decide +kernel
theorem dL_law_2370 : decode cL_law 2370 = .ok (.invokevirtual 329, 3) := by decide +kernel
theorem dL_law_2373 : decode cL_law 2373 = .ok (.aload_n 2, 1) := by decide +kernel
theorem dL_law_2374 : decode cL_law 2374 = .ok (.invokevirtual 332, 3) := by decide +kernel
theorem dL_law_2377 : decode cL_law 2377 = .ok (.if_icmp .eq 175, 3) := by decide +kernel
theorem dL_law_2380 : decode cL_law 2380 = .ok (.iconst 0, 1) := by decide +kernel
theorem dL_law_2381 : decode cL_law 2381 = .ok (.ireturn, 1) := by decide +kernel
theorem dL_law_2382 : decode cL_law 2382 = .ok (.aload_n 1, 1) := by decide +kernel
theorem dL_law_2383 : decode cL_law 2383 = .ok (.aload_n 0, 1) := by decide +kernel
theorem dL_law_2384 : decode cL_law 2384 = .ok (.iload 4, 2) := by decide +kernel
theorem dL_law_2386 : decode cL_law 2386 = .ok (.iconst 1, 1) := by decide +kernel
theorem dL_law_2387 : decode cL_law 2387 = .ok (.iadd, 1) := by decide +kernel
theorem dL_law_2388 : decode cL_law 2388 = .ok (.iaload, 1) := by decide +kernel
theorem dL_law_2389 : decode cL_law 2389 = .ok (.aload_n 3, 1) := by decide +kernel
theorem dL_law_2390 : decode cL_law 2390 = .ok (.invokestatic 333, 3) := by decide +kernel
theorem dL_law_2393 : decode cL_law 2393 = .ok (.istore 5, 2) := by decide +kernel
theorem dL_law_2395 : decode cL_law 2395 = .ok (.aload_n 2, 1) := by decide +kernel
theorem dL_law_2396 : decode cL_law 2396 = .ok (.aload_n 0, 1) := by decide +kernel
theorem dL_law_2397 : decode cL_law 2397 = .ok (.iload 4, 2) := by decide +kernel
theorem dL_law_2399 : decode cL_law 2399 = .ok (.iconst 1, 1) := by decide +kernel
theorem dL_law_2400 : decode cL_law 2400 = .ok (.iadd, 1) := by decide +kernel
theorem dL_law_2401 : decode cL_law 2401 = .ok (.iaload, 1) := by decide +kernel
theorem dL_law_2402 : decode cL_law 2402 = .ok (.invokevirtual 335, 3) := by decide +kernel
theorem dL_law_2405 : decode cL_law 2405 = .ok (.istore 6, 2) := by decide +kernel
theorem dL_law_2407 : decode cL_law 2407 = .ok (.aload_n 2, 1) := by decide +kernel
theorem dL_law_2408 : decode cL_law 2408 = .ok (.invokevirtual 126, 3) := by decide +kernel
theorem dL_law_2411 : decode cL_law 2411 = .ok (.iload 5, 2) := by decide +kernel
theorem dL_law_2413 : decode cL_law 2413 = .ok (.if_icmp .eq 5, 3) := by decide +kernel
theorem dL_law_2416 : decode cL_law 2416 = .ok (.iconst 0, 1) := by decide +kernel
theorem dL_law_2417 : decode cL_law 2417 = .ok (.ireturn, 1) := by decide +kernel
theorem dL_law_2418 : decode cL_law 2418 = .ok (.iload 5, 2) := by decide +kernel
theorem dL_law_2420 : decode cL_law 2420 = .ok (.ifCond .ne 22, 3) := by decide +kernel
theorem dL_law_2423 : decode cL_law 2423 = .ok (.aload_n 3, 1) := by decide +kernel
theorem dL_law_2424 : decode cL_law 2424 = .ok (.iconst 0, 1) := by decide +kernel
theorem dL_law_2425 : decode cL_law 2425 = .ok (.laload, 1) := by decide +kernel
theorem dL_law_2426 : decode cL_law 2426 = .ok (.iload 6, 2) := by decide +kernel
theorem dL_law_2428 : decode cL_law 2428 = .ok (.ifCond .eq 7, 3) := by decide +kernel
theorem dL_law_2431 : decode cL_law 2431 = .ok (.lconst 1, 1) := by decide +kernel
theorem dL_law_2432 : decode cL_law 2432 = .ok (.goto 4, 3) := by decide +kernel
theorem dL_law_2435 : decode cL_law 2435 = .ok (.lconst 0, 1) := by decide +kernel
theorem dL_law_2436 : decode cL_law 2436 = .ok (.lcmp, 1) := by decide +kernel
theorem dL_law_2437 : decode cL_law 2437 = .ok (.ifCond .eq 5, 3) := by decide +kernel
theorem dL_law_2440 : decode cL_law 2440 = .ok (.iconst 0, 1) := by decide +kernel
theorem dL_law_2441 : decode cL_law 2441 = .ok (.ireturn, 1) := by decide +kernel
theorem dL_law_2442 : decode cL_law 2442 = .ok (.goto 110, 3) := by decide +kernel
theorem dL_law_2445 : decode cL_law 2445 = .ok (.aload_n 1, 1) := by decide +kernel
theorem dL_law_2446 : decode cL_law 2446 = .ok (.aload_n 0, 1) := by decide +kernel
theorem dL_law_2447 : decode cL_law 2447 = .ok (.iload 4, 2) := by decide +kernel
theorem dL_law_2449 : decode cL_law 2449 = .ok (.iconst 1, 1) := by decide +kernel
theorem dL_law_2450 : decode cL_law 2450 = .ok (.iadd, 1) := by decide +kernel
theorem dL_law_2451 : decode cL_law 2451 = .ok (.iaload, 1) := by decide +kernel
theorem dL_law_2452 : decode cL_law 2452 = .ok (.aload_n 3, 1) := by decide +kernel
theorem dL_law_2453 : decode cL_law 2453 = .ok (.invokestatic 336, 3) := by decide +kernel
theorem dL_law_2456 : decode cL_law 2456 = .ok (.istore 5, 2) := by decide +kernel
theorem dL_law_2458 : decode cL_law 2458 = .ok (.aload_n 2, 1) := by decide +kernel
theorem dL_law_2459 : decode cL_law 2459 = .ok (.aload_n 0, 1) := by decide +kernel
theorem dL_law_2460 : decode cL_law 2460 = .ok (.iload 4, 2) := by decide +kernel
theorem dL_law_2462 : decode cL_law 2462 = .ok (.iconst 1, 1) := by decide +kernel
theorem dL_law_2463 : decode cL_law 2463 = .ok (.iadd, 1) := by decide +kernel
theorem dL_law_2464 : decode cL_law 2464 = .ok (.iaload, 1) := by decide +kernel
theorem dL_law_2465 : decode cL_law 2465 = .ok (.invokevirtual 338, 3) := by decide +kernel
theorem dL_law_2468 : decode cL_law 2468 = .ok (.istore 6, 2) := by decide +kernel
theorem dL_law_2470 : decode cL_law 2470 = .ok (.aload_n 2, 1) := by decide +kernel
theorem dL_law_2471 : decode cL_law 2471 = .ok (.invokevirtual 126, 3) := by decide +kernel
theorem dL_law_2474 : decode cL_law 2474 = .ok (.iload 5, 2) := by decide +kernel
theorem dL_law_2476 : decode cL_law 2476 = .ok (.if_icmp .eq 5, 3) := by decide +kernel
theorem dL_law_2479 : decode cL_law 2479 = .ok (.iconst 0, 1) := by decide +kernel
theorem dL_law_2480 : decode cL_law 2480 = .ok (.ireturn, 1) := by decide +kernel
theorem dL_law_2481 : decode cL_law 2481 = .ok (.iload 5, 2) := by decide +kernel
theorem dL_law_2483 : decode cL_law 2483 = .ok (.ifCond .ne 15, 3) := by decide +kernel
theorem dL_law_2486 : decode cL_law 2486 = .ok (.aload_n 3, 1) := by decide +kernel
theorem dL_law_2487 : decode cL_law 2487 = .ok (.iconst 0, 1) := by decide +kernel
theorem dL_law_2488 : decode cL_law 2488 = .ok (.laload, 1) := by decide +kernel
theorem dL_law_2489 : decode cL_law 2489 = .ok (.iload 6, 2) := by decide +kernel
theorem dL_law_2491 : decode cL_law 2491 = .ok (.i2l, 1) := by decide +kernel
theorem dL_law_2492 : decode cL_law 2492 = .ok (.lcmp, 1) := by decide +kernel
theorem dL_law_2493 : decode cL_law 2493 = .ok (.ifCond .eq 5, 3) := by decide +kernel
theorem dL_law_2496 : decode cL_law 2496 = .ok (.iconst 0, 1) := by decide +kernel
theorem dL_law_2497 : decode cL_law 2497 = .ok (.ireturn, 1) := by decide +kernel
theorem dL_law_2498 : decode cL_law 2498 = .ok (.goto 54, 3) := by decide +kernel
theorem dL_law_2501 : decode cL_law 2501 = .ok (.aload_n 1, 1) := by decide +kernel
theorem dL_law_2502 : decode cL_law 2502 = .ok (.invokevirtual 339, 3) := by decide +kernel
theorem dL_law_2505 : decode cL_law 2505 = .ok (.aload_n 2, 1) := by decide +kernel
theorem dL_law_2506 : decode cL_law 2506 = .ok (.invokevirtual 342, 3) := by decide +kernel
theorem dL_law_2509 : decode cL_law 2509 = .ok (.if_icmp .eq 43, 3) := by decide +kernel
theorem dL_law_2512 : decode cL_law 2512 = .ok (.iconst 0, 1) := by decide +kernel
theorem dL_law_2513 : decode cL_law 2513 = .ok (.ireturn, 1) := by decide +kernel
theorem dL_law_2514 : decode cL_law 2514 = .ok (.aload_n 1, 1) := by decide +kernel
theorem dL_law_2515 : decode cL_law 2515 = .ok (.invokevirtual 343, 3) := by decide +kernel
theorem dL_law_2518 : decode cL_law 2518 = .ok (.aload_n 2, 1) := by decide +kernel
theorem dL_law_2519 : decode cL_law 2519 = .ok (.invokevirtual 346, 3) := by decide +kernel
theorem dL_law_2522 : decode cL_law 2522 = .ok (.if_icmp .eq 30, 3) := by decide +kernel
theorem dL_law_2525 : decode cL_law 2525 = .ok (.iconst 0, 1) := by decide +kernel
theorem dL_law_2526 : decode cL_law 2526 = .ok (.ireturn, 1) := by decide +kernel
theorem dL_law_2527 : decode cL_law 2527 = .ok (.aload_n 1, 1) := by decide +kernel
theorem dL_law_2528 : decode cL_law 2528 = .ok (.aload_n 0, 1) := by decide +kernel
theorem dL_law_2529 : decode cL_law 2529 = .ok (.iload 4, 2) := by decide +kernel
theorem dL_law_2531 : decode cL_law 2531 = .ok (.iconst 1, 1) := by decide +kernel
theorem dL_law_2532 : decode cL_law 2532 = .ok (.iadd, 1) := by decide +kernel
theorem dL_law_2533 : decode cL_law 2533 = .ok (.iaload, 1) := by decide +kernel
theorem dL_law_2534 : decode cL_law 2534 = .ok (.invokevirtual 347, 3) := by decide +kernel
theorem dL_law_2537 : decode cL_law 2537 = .ok (.aload_n 2, 1) := by decide +kernel
theorem dL_law_2538 : decode cL_law 2538 = .ok (.aload_n 0, 1) := by decide +kernel
theorem dL_law_2539 : decode cL_law 2539 = .ok (.iload 4, 2) := by decide +kernel
theorem dL_law_2541 : decode cL_law 2541 = .ok (.iconst 1, 1) := by decide +kernel
theorem dL_law_2542 : decode cL_law 2542 = .ok (.iadd, 1) := by decide +kernel
theorem dL_law_2543 : decode cL_law 2543 = .ok (.iaload, 1) := by decide +kernel
theorem dL_law_2544 : decode cL_law 2544 = .ok (.invokevirtual 350, 3) := by decide +kernel
theorem dL_law_2547 : decode cL_law 2547 = .ok (.if_icmp .eq 5, 3) := by decide +kernel
theorem dL_law_2550 : decode cL_law 2550 = .ok (.iconst 0, 1) := by decide +kernel
theorem dL_law_2551 : decode cL_law 2551 = .ok (.ireturn, 1) := by decide +kernel
theorem dL_law_2552 : decode cL_law 2552 = .ok (.iinc 4 6, 3) := by decide +kernel
theorem dL_law_2555 : decode cL_law 2555 = .ok (.goto (-2532), 3) := by decide +kernel
theorem dL_law_2558 : decode cL_law 2558 = .ok (.iconst 1, 1) := by decide +kernel
theorem dL_law_2559 : decode cL_law 2559 = .ok (.ireturn, 1) := by decide +kernel

theorem dL_record_0 : decode cL_record 0 = .ok (.aload 4, 2) := by decide +kernel
theorem dL_record_2 : decode cL_record 2 = .ok (.iconst 0, 1) := by decide +kernel
theorem dL_record_3 : decode cL_record 3 = .ok (.aload_n 0, 1) := by decide +kernel
theorem dL_record_4 : decode cL_record 4 = .ok (.iload_n 1, 1) := by decide +kernel
theorem dL_record_5 : decode cL_record 5 = .ok (.iload_n 2, 1) := by decide +kernel
theorem dL_record_6 : decode cL_record 6 = .ok (.iload_n 3, 1) := by decide +kernel
theorem dL_record_7 : decode cL_record 7 = .ok (.invokevirtual 7, 3) := by decide +kernel
theorem dL_record_10 : decode cL_record 10 = .ok (.i2l, 1) := by decide +kernel
theorem dL_record_11 : decode cL_record 11 = .ok (.lastore, 1) := by decide +kernel
theorem dL_record_12 : decode cL_record 12 = .ok (.goto 15, 3) := by decide +kernel
theorem dL_record_15 : decode cL_record 15 = .ok (.astore 5, 2) := by decide +kernel
theorem dL_record_17 : decode cL_record 17 = .ok (.iconst 1, 1) := by decide +kernel
theorem dL_record_18 : decode cL_record 18 = .ok (.ireturn, 1) := by decide +kernel
theorem dL_record_19 : decode cL_record 19 = .ok (.astore 5, 2) := by decide +kernel
theorem dL_record_21 : decode cL_record 21 = .ok (.iconst 2, 1) := by decide +kernel
theorem dL_record_22 : decode cL_record 22 = .ok (.ireturn, 1) := by decide +kernel
theorem dL_record_23 : decode cL_record 23 = .ok (.astore 5, 2) := by decide +kernel
theorem dL_record_25 : decode cL_record 25 = .ok (.iconst 3, 1) := by decide +kernel
theorem dL_record_26 : decode cL_record 26 = .ok (.ireturn, 1) := by decide +kernel
theorem dL_record_27 : decode cL_record 27 = .ok (.iconst 0, 1) := by decide +kernel
theorem dL_record_28 : decode cL_record 28 = .ok (.ireturn, 1) := by decide +kernel
theorem dL_erase_0 : decode cL_erase 0 = .ok (.aload_n 2, 1) := by decide +kernel
theorem dL_erase_1 : decode cL_erase 1 = .ok (.iconst 0, 1) := by decide +kernel
theorem dL_erase_2 : decode cL_erase 2 = .ok (.aload_n 0, 1) := by decide +kernel
theorem dL_erase_3 : decode cL_erase 3 = .ok (.iload_n 1, 1) := by decide +kernel
theorem dL_erase_4 : decode cL_erase 4 = .ok (.invokevirtual 19, 3) := by decide +kernel
theorem dL_erase_7 : decode cL_erase 7 = .ok (.i2l, 1) := by decide +kernel
theorem dL_erase_8 : decode cL_erase 8 = .ok (.lastore, 1) := by decide +kernel
theorem dL_erase_9 : decode cL_erase 9 = .ok (.goto 6, 3) := by decide +kernel
theorem dL_erase_12 : decode cL_erase 12 = .ok (.astore_n 3, 1) := by decide +kernel
theorem dL_erase_13 : decode cL_erase 13 = .ok (.iconst 1, 1) := by decide +kernel
theorem dL_erase_14 : decode cL_erase 14 = .ok (.ireturn, 1) := by decide +kernel
theorem dL_erase_15 : decode cL_erase 15 = .ok (.iconst 0, 1) := by decide +kernel
theorem dL_erase_16 : decode cL_erase 16 = .ok (.ireturn, 1) := by decide +kernel
theorem dL_packet_0 : decode cL_packet 0 = .ok (.aload_n 3, 1) := by decide +kernel
theorem dL_packet_1 : decode cL_packet 1 = .ok (.iconst 0, 1) := by decide +kernel
theorem dL_packet_2 : decode cL_packet 2 = .ok (.aload_n 0, 1) := by decide +kernel
theorem dL_packet_3 : decode cL_packet 3 = .ok (.iload_n 1, 1) := by decide +kernel
theorem dL_packet_4 : decode cL_packet 4 = .ok (.iload_n 2, 1) := by decide +kernel
theorem dL_packet_5 : decode cL_packet 5 = .ok (.invokevirtual 23, 3) := by decide +kernel
theorem dL_packet_8 : decode cL_packet 8 = .ok (.i2l, 1) := by decide +kernel
theorem dL_packet_9 : decode cL_packet 9 = .ok (.lastore, 1) := by decide +kernel
theorem dL_packet_10 : decode cL_packet 10 = .ok (.goto 11, 3) := by decide +kernel
theorem dL_packet_13 : decode cL_packet 13 = .ok (.astore 4, 2) := by decide +kernel
theorem dL_packet_15 : decode cL_packet 15 = .ok (.iconst 1, 1) := by decide +kernel
theorem dL_packet_16 : decode cL_packet 16 = .ok (.ireturn, 1) := by decide +kernel
theorem dL_packet_17 : decode cL_packet 17 = .ok (.astore 4, 2) := by decide +kernel
theorem dL_packet_19 : decode cL_packet 19 = .ok (.iconst 2, 1) := by decide +kernel
theorem dL_packet_20 : decode cL_packet 20 = .ok (.ireturn, 1) := by decide +kernel
theorem dL_packet_21 : decode cL_packet 21 = .ok (.iconst 0, 1) := by decide +kernel
theorem dL_packet_22 : decode cL_packet 22 = .ok (.ireturn, 1) := by decide +kernel
theorem dL_setCapacity_0 : decode cL_setCapacity 0 = .ok (.aload_n 2, 1) := by decide +kernel
theorem dL_setCapacity_1 : decode cL_setCapacity 1 = .ok (.iconst 0, 1) := by decide +kernel
theorem dL_setCapacity_2 : decode cL_setCapacity 2 = .ok (.aload_n 0, 1) := by decide +kernel
theorem dL_setCapacity_3 : decode cL_setCapacity 3 = .ok (.iload_n 1, 1) := by decide +kernel
theorem dL_setCapacity_4 : decode cL_setCapacity 4 = .ok (.invokevirtual 27, 3) := by decide +kernel
theorem dL_setCapacity_7 : decode cL_setCapacity 7 = .ok (.i2l, 1) := by decide +kernel
theorem dL_setCapacity_8 : decode cL_setCapacity 8 = .ok (.lastore, 1) := by decide +kernel
theorem dL_setCapacity_9 : decode cL_setCapacity 9 = .ok (.goto 6, 3) := by decide +kernel
theorem dL_setCapacity_12 : decode cL_setCapacity 12 = .ok (.astore_n 3, 1) := by decide +kernel
theorem dL_setCapacity_13 : decode cL_setCapacity 13 = .ok (.iconst 1, 1) := by decide +kernel
theorem dL_setCapacity_14 : decode cL_setCapacity 14 = .ok (.ireturn, 1) := by decide +kernel
theorem dL_setCapacity_15 : decode cL_setCapacity 15 = .ok (.iconst 0, 1) := by decide +kernel
theorem dL_setCapacity_16 : decode cL_setCapacity 16 = .ok (.ireturn, 1) := by decide +kernel
theorem dL_setRate_0 : decode cL_setRate 0 = .ok (.aload_n 2, 1) := by decide +kernel
theorem dL_setRate_1 : decode cL_setRate 1 = .ok (.iconst 0, 1) := by decide +kernel
theorem dL_setRate_2 : decode cL_setRate 2 = .ok (.aload_n 0, 1) := by decide +kernel
theorem dL_setRate_3 : decode cL_setRate 3 = .ok (.iload_n 1, 1) := by decide +kernel
theorem dL_setRate_4 : decode cL_setRate 4 = .ok (.invokevirtual 30, 3) := by decide +kernel
theorem dL_setRate_7 : decode cL_setRate 7 = .ok (.i2l, 1) := by decide +kernel
theorem dL_setRate_8 : decode cL_setRate 8 = .ok (.lastore, 1) := by decide +kernel
theorem dL_setRate_9 : decode cL_setRate 9 = .ok (.goto 6, 3) := by decide +kernel
theorem dL_setRate_12 : decode cL_setRate 12 = .ok (.astore_n 3, 1) := by decide +kernel
theorem dL_setRate_13 : decode cL_setRate 13 = .ok (.iconst 1, 1) := by decide +kernel
theorem dL_setRate_14 : decode cL_setRate 14 = .ok (.ireturn, 1) := by decide +kernel
theorem dL_setRate_15 : decode cL_setRate 15 = .ok (.iconst 0, 1) := by decide +kernel
theorem dL_setRate_16 : decode cL_setRate 16 = .ok (.ireturn, 1) := by decide +kernel
theorem dL_setPolicy_0 : decode cL_setPolicy 0 = .ok (.aload_n 2, 1) := by decide +kernel
theorem dL_setPolicy_1 : decode cL_setPolicy 1 = .ok (.iconst 0, 1) := by decide +kernel
theorem dL_setPolicy_2 : decode cL_setPolicy 2 = .ok (.aload_n 0, 1) := by decide +kernel
theorem dL_setPolicy_3 : decode cL_setPolicy 3 = .ok (.iload_n 1, 1) := by decide +kernel
theorem dL_setPolicy_4 : decode cL_setPolicy 4 = .ok (.invokevirtual 33, 3) := by decide +kernel
theorem dL_setPolicy_7 : decode cL_setPolicy 7 = .ok (.i2l, 1) := by decide +kernel
theorem dL_setPolicy_8 : decode cL_setPolicy 8 = .ok (.lastore, 1) := by decide +kernel
theorem dL_setPolicy_9 : decode cL_setPolicy 9 = .ok (.goto 6, 3) := by decide +kernel
theorem dL_setPolicy_12 : decode cL_setPolicy 12 = .ok (.astore_n 3, 1) := by decide +kernel
theorem dL_setPolicy_13 : decode cL_setPolicy 13 = .ok (.iconst 1, 1) := by decide +kernel
theorem dL_setPolicy_14 : decode cL_setPolicy 14 = .ok (.ireturn, 1) := by decide +kernel
theorem dL_setPolicy_15 : decode cL_setPolicy 15 = .ok (.iconst 0, 1) := by decide +kernel
theorem dL_setPolicy_16 : decode cL_setPolicy 16 = .ok (.ireturn, 1) := by decide +kernel
theorem dL_setScheduler_0 : decode cL_setScheduler 0 = .ok (.aload_n 2, 1) := by decide +kernel
theorem dL_setScheduler_1 : decode cL_setScheduler 1 = .ok (.iconst 0, 1) := by decide +kernel
theorem dL_setScheduler_2 : decode cL_setScheduler 2 = .ok (.aload_n 0, 1) := by decide +kernel
theorem dL_setScheduler_3 : decode cL_setScheduler 3 = .ok (.iload_n 1, 1) := by decide +kernel
theorem dL_setScheduler_4 : decode cL_setScheduler 4 = .ok (.invokevirtual 36, 3) := by decide +kernel
theorem dL_setScheduler_7 : decode cL_setScheduler 7 = .ok (.i2l, 1) := by decide +kernel
theorem dL_setScheduler_8 : decode cL_setScheduler 8 = .ok (.lastore, 1) := by decide +kernel
theorem dL_setScheduler_9 : decode cL_setScheduler 9 = .ok (.goto 6, 3) := by decide +kernel
theorem dL_setScheduler_12 : decode cL_setScheduler 12 = .ok (.astore_n 3, 1) := by decide +kernel
theorem dL_setScheduler_13 : decode cL_setScheduler 13 = .ok (.iconst 1, 1) := by decide +kernel
theorem dL_setScheduler_14 : decode cL_setScheduler 14 = .ok (.ireturn, 1) := by decide +kernel
theorem dL_setScheduler_15 : decode cL_setScheduler 15 = .ok (.iconst 0, 1) := by decide +kernel
theorem dL_setScheduler_16 : decode cL_setScheduler 16 = .ok (.ireturn, 1) := by decide +kernel
theorem dL_setFactor_0 : decode cL_setFactor 0 = .ok (.aload_n 2, 1) := by decide +kernel
theorem dL_setFactor_1 : decode cL_setFactor 1 = .ok (.iconst 0, 1) := by decide +kernel
theorem dL_setFactor_2 : decode cL_setFactor 2 = .ok (.aload_n 0, 1) := by decide +kernel
theorem dL_setFactor_3 : decode cL_setFactor 3 = .ok (.iload_n 1, 1) := by decide +kernel
theorem dL_setFactor_4 : decode cL_setFactor 4 = .ok (.invokevirtual 39, 3) := by decide +kernel
theorem dL_setFactor_7 : decode cL_setFactor 7 = .ok (.i2l, 1) := by decide +kernel
theorem dL_setFactor_8 : decode cL_setFactor 8 = .ok (.lastore, 1) := by decide +kernel
theorem dL_setFactor_9 : decode cL_setFactor 9 = .ok (.goto 6, 3) := by decide +kernel
theorem dL_setFactor_12 : decode cL_setFactor 12 = .ok (.astore_n 3, 1) := by decide +kernel
theorem dL_setFactor_13 : decode cL_setFactor 13 = .ok (.iconst 1, 1) := by decide +kernel
theorem dL_setFactor_14 : decode cL_setFactor 14 = .ok (.ireturn, 1) := by decide +kernel
theorem dL_setFactor_15 : decode cL_setFactor 15 = .ok (.iconst 0, 1) := by decide +kernel
theorem dL_setFactor_16 : decode cL_setFactor 16 = .ok (.ireturn, 1) := by decide +kernel
theorem dL_setThreshold_0 : decode cL_setThreshold 0 = .ok (.aload_n 2, 1) := by decide +kernel
theorem dL_setThreshold_1 : decode cL_setThreshold 1 = .ok (.iconst 0, 1) := by decide +kernel
theorem dL_setThreshold_2 : decode cL_setThreshold 2 = .ok (.aload_n 0, 1) := by decide +kernel
theorem dL_setThreshold_3 : decode cL_setThreshold 3 = .ok (.iload_n 1, 1) := by decide +kernel
theorem dL_setThreshold_4 : decode cL_setThreshold 4 = .ok (.invokevirtual 42, 3) := by decide +kernel
theorem dL_setThreshold_7 : decode cL_setThreshold 7 = .ok (.i2l, 1) := by decide +kernel
theorem dL_setThreshold_8 : decode cL_setThreshold 8 = .ok (.lastore, 1) := by decide +kernel
theorem dL_setThreshold_9 : decode cL_setThreshold 9 = .ok (.goto 6, 3) := by decide +kernel
theorem dL_setThreshold_12 : decode cL_setThreshold 12 = .ok (.astore_n 3, 1) := by decide +kernel
theorem dL_setThreshold_13 : decode cL_setThreshold 13 = .ok (.iconst 1, 1) := by decide +kernel
theorem dL_setThreshold_14 : decode cL_setThreshold 14 = .ok (.ireturn, 1) := by decide +kernel
theorem dL_setThreshold_15 : decode cL_setThreshold 15 = .ok (.iconst 0, 1) := by decide +kernel
theorem dL_setThreshold_16 : decode cL_setThreshold 16 = .ok (.ireturn, 1) := by decide +kernel
theorem dL_setInterval_0 : decode cL_setInterval 0 = .ok (.aload_n 2, 1) := by decide +kernel
theorem dL_setInterval_1 : decode cL_setInterval 1 = .ok (.iconst 0, 1) := by decide +kernel
theorem dL_setInterval_2 : decode cL_setInterval 2 = .ok (.aload_n 0, 1) := by decide +kernel
theorem dL_setInterval_3 : decode cL_setInterval 3 = .ok (.iload_n 1, 1) := by decide +kernel
theorem dL_setInterval_4 : decode cL_setInterval 4 = .ok (.invokevirtual 45, 3) := by decide +kernel
theorem dL_setInterval_7 : decode cL_setInterval 7 = .ok (.i2l, 1) := by decide +kernel
theorem dL_setInterval_8 : decode cL_setInterval 8 = .ok (.lastore, 1) := by decide +kernel
theorem dL_setInterval_9 : decode cL_setInterval 9 = .ok (.goto 6, 3) := by decide +kernel
theorem dL_setInterval_12 : decode cL_setInterval 12 = .ok (.astore_n 3, 1) := by decide +kernel
theorem dL_setInterval_13 : decode cL_setInterval 13 = .ok (.iconst 1, 1) := by decide +kernel
theorem dL_setInterval_14 : decode cL_setInterval 14 = .ok (.ireturn, 1) := by decide +kernel
theorem dL_setInterval_15 : decode cL_setInterval 15 = .ok (.iconst 0, 1) := by decide +kernel
theorem dL_setInterval_16 : decode cL_setInterval 16 = .ok (.ireturn, 1) := by decide +kernel
theorem dL_setMeasure_0 : decode cL_setMeasure 0 = .ok (.aload_n 2, 1) := by decide +kernel
theorem dL_setMeasure_1 : decode cL_setMeasure 1 = .ok (.iconst 0, 1) := by decide +kernel
theorem dL_setMeasure_2 : decode cL_setMeasure 2 = .ok (.aload_n 0, 1) := by decide +kernel
theorem dL_setMeasure_3 : decode cL_setMeasure 3 = .ok (.iload_n 1, 1) := by decide +kernel
theorem dL_setMeasure_4 : decode cL_setMeasure 4 = .ok (.invokevirtual 48, 3) := by decide +kernel
theorem dL_setMeasure_7 : decode cL_setMeasure 7 = .ok (.i2l, 1) := by decide +kernel
theorem dL_setMeasure_8 : decode cL_setMeasure 8 = .ok (.lastore, 1) := by decide +kernel
theorem dL_setMeasure_9 : decode cL_setMeasure 9 = .ok (.goto 6, 3) := by decide +kernel
theorem dL_setMeasure_12 : decode cL_setMeasure 12 = .ok (.astore_n 3, 1) := by decide +kernel
theorem dL_setMeasure_13 : decode cL_setMeasure 13 = .ok (.iconst 1, 1) := by decide +kernel
theorem dL_setMeasure_14 : decode cL_setMeasure 14 = .ok (.ireturn, 1) := by decide +kernel
theorem dL_setMeasure_15 : decode cL_setMeasure 15 = .ok (.iconst 0, 1) := by decide +kernel
theorem dL_setMeasure_16 : decode cL_setMeasure 16 = .ok (.ireturn, 1) := by decide +kernel
theorem dL_setPriority_0 : decode cL_setPriority 0 = .ok (.aload_n 3, 1) := by decide +kernel
theorem dL_setPriority_1 : decode cL_setPriority 1 = .ok (.iconst 0, 1) := by decide +kernel
theorem dL_setPriority_2 : decode cL_setPriority 2 = .ok (.aload_n 0, 1) := by decide +kernel
theorem dL_setPriority_3 : decode cL_setPriority 3 = .ok (.iload_n 1, 1) := by decide +kernel
theorem dL_setPriority_4 : decode cL_setPriority 4 = .ok (.iload_n 2, 1) := by decide +kernel
theorem dL_setPriority_5 : decode cL_setPriority 5 = .ok (.invokevirtual 51, 3) := by decide +kernel
theorem dL_setPriority_8 : decode cL_setPriority 8 = .ok (.i2l, 1) := by decide +kernel
theorem dL_setPriority_9 : decode cL_setPriority 9 = .ok (.lastore, 1) := by decide +kernel
theorem dL_setPriority_10 : decode cL_setPriority 10 = .ok (.goto 11, 3) := by decide +kernel
theorem dL_setPriority_13 : decode cL_setPriority 13 = .ok (.astore 4, 2) := by decide +kernel
theorem dL_setPriority_15 : decode cL_setPriority 15 = .ok (.iconst 1, 1) := by decide +kernel
theorem dL_setPriority_16 : decode cL_setPriority 16 = .ok (.ireturn, 1) := by decide +kernel
theorem dL_setPriority_17 : decode cL_setPriority 17 = .ok (.astore 4, 2) := by decide +kernel
theorem dL_setPriority_19 : decode cL_setPriority 19 = .ok (.iconst 2, 1) := by decide +kernel
theorem dL_setPriority_20 : decode cL_setPriority 20 = .ok (.ireturn, 1) := by decide +kernel
theorem dL_setPriority_21 : decode cL_setPriority 21 = .ok (.iconst 0, 1) := by decide +kernel
theorem dL_setPriority_22 : decode cL_setPriority 22 = .ok (.ireturn, 1) := by decide +kernel
theorem dL_replay_0 : decode cL_replay 0 = .ok (.aload_n 2, 1) := by decide +kernel
theorem dL_replay_1 : decode cL_replay 1 = .ok (.iconst 0, 1) := by decide +kernel
theorem dL_replay_2 : decode cL_replay 2 = .ok (.aload_n 0, 1) := by decide +kernel
theorem dL_replay_3 : decode cL_replay 3 = .ok (.iload_n 1, 1) := by decide +kernel
theorem dL_replay_4 : decode cL_replay 4 = .ok (.invokevirtual 54, 3) := by decide +kernel
theorem dL_replay_7 : decode cL_replay 7 = .ok (.i2l, 1) := by decide +kernel
theorem dL_replay_8 : decode cL_replay 8 = .ok (.lastore, 1) := by decide +kernel
theorem dL_replay_9 : decode cL_replay 9 = .ok (.goto 6, 3) := by decide +kernel
theorem dL_replay_12 : decode cL_replay 12 = .ok (.astore_n 3, 1) := by decide +kernel
theorem dL_replay_13 : decode cL_replay 13 = .ok (.iconst 1, 1) := by decide +kernel
theorem dL_replay_14 : decode cL_replay 14 = .ok (.ireturn, 1) := by decide +kernel
theorem dL_replay_15 : decode cL_replay 15 = .ok (.iconst 0, 1) := by decide +kernel
theorem dL_replay_16 : decode cL_replay 16 = .ok (.ireturn, 1) := by decide +kernel
theorem dL_worth_0 : decode cL_worth 0 = .ok (.aload_n 2, 1) := by decide +kernel
theorem dL_worth_1 : decode cL_worth 1 = .ok (.iconst 0, 1) := by decide +kernel
theorem dL_worth_2 : decode cL_worth 2 = .ok (.aload_n 0, 1) := by decide +kernel
theorem dL_worth_3 : decode cL_worth 3 = .ok (.iload_n 1, 1) := by decide +kernel
theorem dL_worth_4 : decode cL_worth 4 = .ok (.invokevirtual 57, 3) := by decide +kernel
theorem dL_worth_7 : decode cL_worth 7 = .ok (.i2l, 1) := by decide +kernel
theorem dL_worth_8 : decode cL_worth 8 = .ok (.lastore, 1) := by decide +kernel
theorem dL_worth_9 : decode cL_worth 9 = .ok (.goto 6, 3) := by decide +kernel
theorem dL_worth_12 : decode cL_worth 12 = .ok (.astore_n 3, 1) := by decide +kernel
theorem dL_worth_13 : decode cL_worth 13 = .ok (.iconst 1, 1) := by decide +kernel
theorem dL_worth_14 : decode cL_worth 14 = .ok (.ireturn, 1) := by decide +kernel
theorem dL_worth_15 : decode cL_worth 15 = .ok (.iconst 0, 1) := by decide +kernel
theorem dL_worth_16 : decode cL_worth 16 = .ok (.ireturn, 1) := by decide +kernel
theorem dL_worthFor_0 : decode cL_worthFor 0 = .ok (.aload_n 3, 1) := by decide +kernel
theorem dL_worthFor_1 : decode cL_worthFor 1 = .ok (.iconst 0, 1) := by decide +kernel
theorem dL_worthFor_2 : decode cL_worthFor 2 = .ok (.aload_n 0, 1) := by decide +kernel
theorem dL_worthFor_3 : decode cL_worthFor 3 = .ok (.iload_n 1, 1) := by decide +kernel
theorem dL_worthFor_4 : decode cL_worthFor 4 = .ok (.iload_n 2, 1) := by decide +kernel
theorem dL_worthFor_5 : decode cL_worthFor 5 = .ok (.invokevirtual 60, 3) := by decide +kernel
theorem dL_worthFor_8 : decode cL_worthFor 8 = .ok (.i2l, 1) := by decide +kernel
theorem dL_worthFor_9 : decode cL_worthFor 9 = .ok (.lastore, 1) := by decide +kernel
theorem dL_worthFor_10 : decode cL_worthFor 10 = .ok (.goto 11, 3) := by decide +kernel
theorem dL_worthFor_13 : decode cL_worthFor 13 = .ok (.astore 4, 2) := by decide +kernel
theorem dL_worthFor_15 : decode cL_worthFor 15 = .ok (.iconst 1, 1) := by decide +kernel
theorem dL_worthFor_16 : decode cL_worthFor 16 = .ok (.ireturn, 1) := by decide +kernel
theorem dL_worthFor_17 : decode cL_worthFor 17 = .ok (.astore 4, 2) := by decide +kernel
theorem dL_worthFor_19 : decode cL_worthFor 19 = .ok (.iconst 2, 1) := by decide +kernel
theorem dL_worthFor_20 : decode cL_worthFor 20 = .ok (.ireturn, 1) := by decide +kernel
theorem dL_worthFor_21 : decode cL_worthFor 21 = .ok (.iconst 0, 1) := by decide +kernel
theorem dL_worthFor_22 : decode cL_worthFor 22 = .ok (.ireturn, 1) := by decide +kernel
theorem dL_contribution_0 : decode cL_contribution 0 = .ok (.aload_n 3, 1) := by decide +kernel
theorem dL_contribution_1 : decode cL_contribution 1 = .ok (.iconst 0, 1) := by decide +kernel
theorem dL_contribution_2 : decode cL_contribution 2 = .ok (.aload_n 0, 1) := by decide +kernel
theorem dL_contribution_3 : decode cL_contribution 3 = .ok (.iload_n 1, 1) := by decide +kernel
theorem dL_contribution_4 : decode cL_contribution 4 = .ok (.iload_n 2, 1) := by decide +kernel
theorem dL_contribution_5 : decode cL_contribution 5 = .ok (.invokevirtual 63, 3) := by decide +kernel
theorem dL_contribution_8 : decode cL_contribution 8 = .ok (.i2l, 1) := by decide +kernel
theorem dL_contribution_9 : decode cL_contribution 9 = .ok (.lastore, 1) := by decide +kernel
theorem dL_contribution_10 : decode cL_contribution 10 = .ok (.goto 11, 3) := by decide +kernel
theorem dL_contribution_13 : decode cL_contribution 13 = .ok (.astore 4, 2) := by decide +kernel
theorem dL_contribution_15 : decode cL_contribution 15 = .ok (.iconst 1, 1) := by decide +kernel
theorem dL_contribution_16 : decode cL_contribution 16 = .ok (.ireturn, 1) := by decide +kernel
theorem dL_contribution_17 : decode cL_contribution 17 = .ok (.astore 4, 2) := by decide +kernel
theorem dL_contribution_19 : decode cL_contribution 19 = .ok (.iconst 2, 1) := by decide +kernel
theorem dL_contribution_20 : decode cL_contribution 20 = .ok (.ireturn, 1) := by decide +kernel
theorem dL_contribution_21 : decode cL_contribution 21 = .ok (.iconst 0, 1) := by decide +kernel
theorem dL_contribution_22 : decode cL_contribution 22 = .ok (.ireturn, 1) := by decide +kernel
theorem dL_blame_0 : decode cL_blame 0 = .ok (.aload_n 3, 1) := by decide +kernel
theorem dL_blame_1 : decode cL_blame 1 = .ok (.iconst 0, 1) := by decide +kernel
theorem dL_blame_2 : decode cL_blame 2 = .ok (.aload_n 0, 1) := by decide +kernel
theorem dL_blame_3 : decode cL_blame 3 = .ok (.iload_n 1, 1) := by decide +kernel
theorem dL_blame_4 : decode cL_blame 4 = .ok (.iload_n 2, 1) := by decide +kernel
theorem dL_blame_5 : decode cL_blame 5 = .ok (.invokevirtual 66, 3) := by decide +kernel
theorem dL_blame_8 : decode cL_blame 8 = .ok (.i2l, 1) := by decide +kernel
theorem dL_blame_9 : decode cL_blame 9 = .ok (.lastore, 1) := by decide +kernel
theorem dL_blame_10 : decode cL_blame 10 = .ok (.goto 11, 3) := by decide +kernel
theorem dL_blame_13 : decode cL_blame 13 = .ok (.astore 4, 2) := by decide +kernel
theorem dL_blame_15 : decode cL_blame 15 = .ok (.iconst 1, 1) := by decide +kernel
theorem dL_blame_16 : decode cL_blame 16 = .ok (.ireturn, 1) := by decide +kernel
theorem dL_blame_17 : decode cL_blame 17 = .ok (.astore 4, 2) := by decide +kernel
theorem dL_blame_19 : decode cL_blame 19 = .ok (.iconst 2, 1) := by decide +kernel
theorem dL_blame_20 : decode cL_blame 20 = .ok (.ireturn, 1) := by decide +kernel
theorem dL_blame_21 : decode cL_blame 21 = .ok (.iconst 0, 1) := by decide +kernel
theorem dL_blame_22 : decode cL_blame 22 = .ok (.ireturn, 1) := by decide +kernel
theorem dL_blameFor_0 : decode cL_blameFor 0 = .ok (.aload 4, 2) := by decide +kernel
theorem dL_blameFor_2 : decode cL_blameFor 2 = .ok (.iconst 0, 1) := by decide +kernel
theorem dL_blameFor_3 : decode cL_blameFor 3 = .ok (.aload_n 0, 1) := by decide +kernel
theorem dL_blameFor_4 : decode cL_blameFor 4 = .ok (.iload_n 1, 1) := by decide +kernel
theorem dL_blameFor_5 : decode cL_blameFor 5 = .ok (.iload_n 2, 1) := by decide +kernel
theorem dL_blameFor_6 : decode cL_blameFor 6 = .ok (.iload_n 3, 1) := by decide +kernel
theorem dL_blameFor_7 : decode cL_blameFor 7 = .ok (.invokevirtual 69, 3) := by decide +kernel
theorem dL_blameFor_10 : decode cL_blameFor 10 = .ok (.i2l, 1) := by decide +kernel
theorem dL_blameFor_11 : decode cL_blameFor 11 = .ok (.lastore, 1) := by decide +kernel
theorem dL_blameFor_12 : decode cL_blameFor 12 = .ok (.goto 11, 3) := by decide +kernel
theorem dL_blameFor_15 : decode cL_blameFor 15 = .ok (.astore 5, 2) := by decide +kernel
theorem dL_blameFor_17 : decode cL_blameFor 17 = .ok (.iconst 1, 1) := by decide +kernel
theorem dL_blameFor_18 : decode cL_blameFor 18 = .ok (.ireturn, 1) := by decide +kernel
theorem dL_blameFor_19 : decode cL_blameFor 19 = .ok (.astore 5, 2) := by decide +kernel
theorem dL_blameFor_21 : decode cL_blameFor 21 = .ok (.iconst 2, 1) := by decide +kernel
theorem dL_blameFor_22 : decode cL_blameFor 22 = .ok (.ireturn, 1) := by decide +kernel
theorem dL_blameFor_23 : decode cL_blameFor 23 = .ok (.iconst 0, 1) := by decide +kernel
theorem dL_blameFor_24 : decode cL_blameFor 24 = .ok (.ireturn, 1) := by decide +kernel
theorem dL_index_0 : decode cL_index 0 = .ok (.aload_n 3, 1) := by decide +kernel
theorem dL_index_1 : decode cL_index 1 = .ok (.iconst 0, 1) := by decide +kernel
theorem dL_index_2 : decode cL_index 2 = .ok (.aload_n 0, 1) := by decide +kernel
theorem dL_index_3 : decode cL_index 3 = .ok (.iload_n 1, 1) := by decide +kernel
theorem dL_index_4 : decode cL_index 4 = .ok (.iload_n 2, 1) := by decide +kernel
theorem dL_index_5 : decode cL_index 5 = .ok (.invokevirtual 72, 3) := by decide +kernel
theorem dL_index_8 : decode cL_index 8 = .ok (.i2l, 1) := by decide +kernel
theorem dL_index_9 : decode cL_index 9 = .ok (.lastore, 1) := by decide +kernel
theorem dL_index_10 : decode cL_index 10 = .ok (.goto 11, 3) := by decide +kernel
theorem dL_index_13 : decode cL_index 13 = .ok (.astore 4, 2) := by decide +kernel
theorem dL_index_15 : decode cL_index 15 = .ok (.iconst 1, 1) := by decide +kernel
theorem dL_index_16 : decode cL_index 16 = .ok (.ireturn, 1) := by decide +kernel
theorem dL_index_17 : decode cL_index 17 = .ok (.astore 4, 2) := by decide +kernel
theorem dL_index_19 : decode cL_index 19 = .ok (.iconst 2, 1) := by decide +kernel
theorem dL_index_20 : decode cL_index 20 = .ok (.ireturn, 1) := by decide +kernel
theorem dL_index_21 : decode cL_index 21 = .ok (.iconst 0, 1) := by decide +kernel
theorem dL_index_22 : decode cL_index 22 = .ok (.ireturn, 1) := by decide +kernel
theorem dL_interaction_0 : decode cL_interaction 0 = .ok (.aload 4, 2) := by decide +kernel
theorem dL_interaction_2 : decode cL_interaction 2 = .ok (.iconst 0, 1) := by decide +kernel
theorem dL_interaction_3 : decode cL_interaction 3 = .ok (.aload_n 0, 1) := by decide +kernel
theorem dL_interaction_4 : decode cL_interaction 4 = .ok (.iload_n 1, 1) := by decide +kernel
theorem dL_interaction_5 : decode cL_interaction 5 = .ok (.iload_n 2, 1) := by decide +kernel
theorem dL_interaction_6 : decode cL_interaction 6 = .ok (.iload_n 3, 1) := by decide +kernel
theorem dL_interaction_7 : decode cL_interaction 7 = .ok (.invokevirtual 75, 3) := by decide +kernel
theorem dL_interaction_10 : decode cL_interaction 10 = .ok (.i2l, 1) := by decide +kernel
theorem dL_interaction_11 : decode cL_interaction 11 = .ok (.lastore, 1) := by decide +kernel
theorem dL_interaction_12 : decode cL_interaction 12 = .ok (.goto 11, 3) := by decide +kernel
theorem dL_interaction_15 : decode cL_interaction 15 = .ok (.astore 5, 2) := by decide +kernel
theorem dL_interaction_17 : decode cL_interaction 17 = .ok (.iconst 1, 1) := by decide +kernel
theorem dL_interaction_18 : decode cL_interaction 18 = .ok (.ireturn, 1) := by decide +kernel
theorem dL_interaction_19 : decode cL_interaction 19 = .ok (.astore 5, 2) := by decide +kernel
theorem dL_interaction_21 : decode cL_interaction 21 = .ok (.iconst 2, 1) := by decide +kernel
theorem dL_interaction_22 : decode cL_interaction 22 = .ok (.ireturn, 1) := by decide +kernel
theorem dL_interaction_23 : decode cL_interaction 23 = .ok (.iconst 0, 1) := by decide +kernel
theorem dL_interaction_24 : decode cL_interaction 24 = .ok (.ireturn, 1) := by decide +kernel
theorem dL_ranked_0 : decode cL_ranked 0 = .ok (.aload_n 2, 1) := by decide +kernel
theorem dL_ranked_1 : decode cL_ranked 1 = .ok (.iconst 0, 1) := by decide +kernel
theorem dL_ranked_2 : decode cL_ranked 2 = .ok (.aload_n 0, 1) := by decide +kernel
theorem dL_ranked_3 : decode cL_ranked 3 = .ok (.iload_n 1, 1) := by decide +kernel
theorem dL_ranked_4 : decode cL_ranked 4 = .ok (.invokevirtual 78, 3) := by decide +kernel
theorem dL_ranked_7 : decode cL_ranked 7 = .ok (.i2l, 1) := by decide +kernel
theorem dL_ranked_8 : decode cL_ranked 8 = .ok (.lastore, 1) := by decide +kernel
theorem dL_ranked_9 : decode cL_ranked 9 = .ok (.goto 6, 3) := by decide +kernel
theorem dL_ranked_12 : decode cL_ranked 12 = .ok (.astore_n 3, 1) := by decide +kernel
theorem dL_ranked_13 : decode cL_ranked 13 = .ok (.iconst 1, 1) := by decide +kernel
theorem dL_ranked_14 : decode cL_ranked 14 = .ok (.ireturn, 1) := by decide +kernel
theorem dL_ranked_15 : decode cL_ranked 15 = .ok (.iconst 0, 1) := by decide +kernel
theorem dL_ranked_16 : decode cL_ranked 16 = .ok (.ireturn, 1) := by decide +kernel
theorem dL_sampled_0 : decode cL_sampled 0 = .ok (.aload 4, 2) := by decide +kernel
theorem dL_sampled_2 : decode cL_sampled 2 = .ok (.iconst 0, 1) := by decide +kernel
theorem dL_sampled_3 : decode cL_sampled 3 = .ok (.aload_n 0, 1) := by decide +kernel
theorem dL_sampled_4 : decode cL_sampled 4 = .ok (.iload_n 1, 1) := by decide +kernel
theorem dL_sampled_5 : decode cL_sampled 5 = .ok (.iload_n 2, 1) := by decide +kernel
theorem dL_sampled_6 : decode cL_sampled 6 = .ok (.iload_n 3, 1) := by decide +kernel
theorem dL_sampled_7 : decode cL_sampled 7 = .ok (.invokevirtual 81, 3) := by decide +kernel
theorem dL_sampled_10 : decode cL_sampled 10 = .ok (.i2l, 1) := by decide +kernel
theorem dL_sampled_11 : decode cL_sampled 11 = .ok (.lastore, 1) := by decide +kernel
theorem dL_sampled_12 : decode cL_sampled 12 = .ok (.goto 11, 3) := by decide +kernel
theorem dL_sampled_15 : decode cL_sampled 15 = .ok (.astore 5, 2) := by decide +kernel
theorem dL_sampled_17 : decode cL_sampled 17 = .ok (.iconst 1, 1) := by decide +kernel
theorem dL_sampled_18 : decode cL_sampled 18 = .ok (.ireturn, 1) := by decide +kernel
theorem dL_sampled_19 : decode cL_sampled 19 = .ok (.astore 5, 2) := by decide +kernel
theorem dL_sampled_21 : decode cL_sampled 21 = .ok (.iconst 2, 1) := by decide +kernel
theorem dL_sampled_22 : decode cL_sampled 22 = .ok (.ireturn, 1) := by decide +kernel
theorem dL_sampled_23 : decode cL_sampled 23 = .ok (.iconst 0, 1) := by decide +kernel
theorem dL_sampled_24 : decode cL_sampled 24 = .ok (.ireturn, 1) := by decide +kernel
theorem dL_cause_0 : decode cL_cause 0 = .ok (.aload_n 2, 1) := by decide +kernel
theorem dL_cause_1 : decode cL_cause 1 = .ok (.iconst 0, 1) := by decide +kernel
theorem dL_cause_2 : decode cL_cause 2 = .ok (.aload_n 0, 1) := by decide +kernel
theorem dL_cause_3 : decode cL_cause 3 = .ok (.iload_n 1, 1) := by decide +kernel
theorem dL_cause_4 : decode cL_cause 4 = .ok (.invokevirtual 84, 3) := by decide +kernel
theorem dL_cause_7 : decode cL_cause 7 = .ok (.i2l, 1) := by decide +kernel
theorem dL_cause_8 : decode cL_cause 8 = .ok (.lastore, 1) := by decide +kernel
theorem dL_cause_9 : decode cL_cause 9 = .ok (.goto 6, 3) := by decide +kernel
theorem dL_cause_12 : decode cL_cause 12 = .ok (.astore_n 3, 1) := by decide +kernel
theorem dL_cause_13 : decode cL_cause 13 = .ok (.iconst 1, 1) := by decide +kernel
theorem dL_cause_14 : decode cL_cause 14 = .ok (.ireturn, 1) := by decide +kernel
theorem dL_cause_15 : decode cL_cause 15 = .ok (.iconst 0, 1) := by decide +kernel
theorem dL_cause_16 : decode cL_cause 16 = .ok (.ireturn, 1) := by decide +kernel
theorem dL_suspects_0 : decode cL_suspects 0 = .ok (.aload_n 2, 1) := by decide +kernel
theorem dL_suspects_1 : decode cL_suspects 1 = .ok (.iconst 0, 1) := by decide +kernel
theorem dL_suspects_2 : decode cL_suspects 2 = .ok (.aload_n 0, 1) := by decide +kernel
theorem dL_suspects_3 : decode cL_suspects 3 = .ok (.iload_n 1, 1) := by decide +kernel
theorem dL_suspects_4 : decode cL_suspects 4 = .ok (.invokevirtual 87, 3) := by decide +kernel
theorem dL_suspects_7 : decode cL_suspects 7 = .ok (.i2l, 1) := by decide +kernel
theorem dL_suspects_8 : decode cL_suspects 8 = .ok (.lastore, 1) := by decide +kernel
theorem dL_suspects_9 : decode cL_suspects 9 = .ok (.goto 6, 3) := by decide +kernel
theorem dL_suspects_12 : decode cL_suspects 12 = .ok (.astore_n 3, 1) := by decide +kernel
theorem dL_suspects_13 : decode cL_suspects 13 = .ok (.iconst 1, 1) := by decide +kernel
theorem dL_suspects_14 : decode cL_suspects 14 = .ok (.ireturn, 1) := by decide +kernel
theorem dL_suspects_15 : decode cL_suspects 15 = .ok (.iconst 0, 1) := by decide +kernel
theorem dL_suspects_16 : decode cL_suspects 16 = .ok (.ireturn, 1) := by decide +kernel
theorem dL_capacityFor_0 : decode cL_capacityFor 0 = .ok (.aload_n 2, 1) := by decide +kernel
theorem dL_capacityFor_1 : decode cL_capacityFor 1 = .ok (.iconst 0, 1) := by decide +kernel
theorem dL_capacityFor_2 : decode cL_capacityFor 2 = .ok (.aload_n 0, 1) := by decide +kernel
theorem dL_capacityFor_3 : decode cL_capacityFor 3 = .ok (.iload_n 1, 1) := by decide +kernel
theorem dL_capacityFor_4 : decode cL_capacityFor 4 = .ok (.invokevirtual 90, 3) := by decide +kernel
theorem dL_capacityFor_7 : decode cL_capacityFor 7 = .ok (.i2l, 1) := by decide +kernel
theorem dL_capacityFor_8 : decode cL_capacityFor 8 = .ok (.lastore, 1) := by decide +kernel
theorem dL_capacityFor_9 : decode cL_capacityFor 9 = .ok (.goto 6, 3) := by decide +kernel
theorem dL_capacityFor_12 : decode cL_capacityFor 12 = .ok (.astore_n 3, 1) := by decide +kernel
theorem dL_capacityFor_13 : decode cL_capacityFor 13 = .ok (.iconst 1, 1) := by decide +kernel
theorem dL_capacityFor_14 : decode cL_capacityFor 14 = .ok (.ireturn, 1) := by decide +kernel
theorem dL_capacityFor_15 : decode cL_capacityFor 15 = .ok (.iconst 0, 1) := by decide +kernel
theorem dL_capacityFor_16 : decode cL_capacityFor 16 = .ok (.ireturn, 1) := by decide +kernel
theorem dL_type_0 : decode cL_type 0 = .ok (.aload_n 2, 1) := by decide +kernel
theorem dL_type_1 : decode cL_type 1 = .ok (.iconst 0, 1) := by decide +kernel
theorem dL_type_2 : decode cL_type 2 = .ok (.aload_n 0, 1) := by decide +kernel
theorem dL_type_3 : decode cL_type 3 = .ok (.iload_n 1, 1) := by decide +kernel
theorem dL_type_4 : decode cL_type 4 = .ok (.invokevirtual 93, 3) := by decide +kernel
theorem dL_type_7 : decode cL_type 7 = .ok (.i2l, 1) := by decide +kernel
theorem dL_type_8 : decode cL_type 8 = .ok (.lastore, 1) := by decide +kernel
theorem dL_type_9 : decode cL_type 9 = .ok (.goto 9, 3) := by decide +kernel
theorem dL_type_12 : decode cL_type 12 = .ok (.astore_n 3, 1) := by decide +kernel
theorem dL_type_13 : decode cL_type 13 = .ok (.iconst 1, 1) := by decide +kernel
theorem dL_type_14 : decode cL_type 14 = .ok (.ireturn, 1) := by decide +kernel
theorem dL_type_15 : decode cL_type 15 = .ok (.astore_n 3, 1) := by decide +kernel
theorem dL_type_16 : decode cL_type 16 = .ok (.iconst 2, 1) := by decide +kernel
theorem dL_type_17 : decode cL_type 17 = .ok (.ireturn, 1) := by decide +kernel
theorem dL_type_18 : decode cL_type 18 = .ok (.iconst 0, 1) := by decide +kernel
theorem dL_type_19 : decode cL_type 19 = .ok (.ireturn, 1) := by decide +kernel
theorem dL_run_0 : decode cL_run 0 = .ok (.aload_n 1, 1) := by decide +kernel
theorem dL_run_1 : decode cL_run 1 = .ok (.iconst 0, 1) := by decide +kernel
theorem dL_run_2 : decode cL_run 2 = .ok (.aload_n 0, 1) := by decide +kernel
theorem dL_run_3 : decode cL_run 3 = .ok (.invokevirtual 96, 3) := by decide +kernel
theorem dL_run_6 : decode cL_run 6 = .ok (.i2l, 1) := by decide +kernel
theorem dL_run_7 : decode cL_run 7 = .ok (.lastore, 1) := by decide +kernel
theorem dL_run_8 : decode cL_run 8 = .ok (.goto 6, 3) := by decide +kernel
theorem dL_run_11 : decode cL_run 11 = .ok (.astore_n 2, 1) := by decide +kernel
theorem dL_run_12 : decode cL_run 12 = .ok (.iconst 1, 1) := by decide +kernel
theorem dL_run_13 : decode cL_run 13 = .ok (.ireturn, 1) := by decide +kernel
theorem dL_run_14 : decode cL_run 14 = .ok (.iconst 0, 1) := by decide +kernel
theorem dL_run_15 : decode cL_run 15 = .ok (.ireturn, 1) := by decide +kernel
theorem dL_undo_0 : decode cL_undo 0 = .ok (.aload_n 1, 1) := by decide +kernel
theorem dL_undo_1 : decode cL_undo 1 = .ok (.iconst 0, 1) := by decide +kernel
theorem dL_undo_2 : decode cL_undo 2 = .ok (.aload_n 0, 1) := by decide +kernel
theorem dL_undo_3 : decode cL_undo 3 = .ok (.invokevirtual 100, 3) := by decide +kernel
theorem dL_undo_6 : decode cL_undo 6 = .ok (.i2l, 1) := by decide +kernel
theorem dL_undo_7 : decode cL_undo 7 = .ok (.lastore, 1) := by decide +kernel
theorem dL_undo_8 : decode cL_undo 8 = .ok (.goto 6, 3) := by decide +kernel
theorem dL_undo_11 : decode cL_undo 11 = .ok (.astore_n 2, 1) := by decide +kernel
theorem dL_undo_12 : decode cL_undo 12 = .ok (.iconst 1, 1) := by decide +kernel
theorem dL_undo_13 : decode cL_undo 13 = .ok (.ireturn, 1) := by decide +kernel
theorem dL_undo_14 : decode cL_undo 14 = .ok (.iconst 0, 1) := by decide +kernel
theorem dL_undo_15 : decode cL_undo 15 = .ok (.ireturn, 1) := by decide +kernel

theorem dX7_init_0 : decode cX7_init 0 = .ok (.aload_n 0, 1) := by decide +kernel
theorem dX7_init_1 : decode cX7_init 1 = .ok (.invokespecial 1, 3) := by decide +kernel
theorem dX7_init_4 : decode cX7_init 4 = .ok (.aload_n 0, 1) := by decide +kernel
theorem dX7_init_5 : decode cX7_init 5 = .ok (.new 7, 3) := by decide +kernel
theorem dX7_init_8 : decode cX7_init 8 = .ok (.dup, 1) := by decide +kernel
theorem dX7_init_9 : decode cX7_init 9 = .ok (.invokespecial 9, 3) := by decide +kernel
theorem dX7_init_12 : decode cX7_init 12 = .ok (.putfield 10, 3) := by decide +kernel
theorem dX7_init_15 : decode cX7_init 15 = .ok (.aload_n 0, 1) := by decide +kernel
theorem dX7_init_16 : decode cX7_init 16 = .ok (.new 16, 3) := by decide +kernel
theorem dX7_init_19 : decode cX7_init 19 = .ok (.dup, 1) := by decide +kernel
theorem dX7_init_20 : decode cX7_init 20 = .ok (.invokespecial 18, 3) := by decide +kernel
theorem dX7_init_23 : decode cX7_init 23 = .ok (.putfield 19, 3) := by decide +kernel
theorem dX7_init_26 : decode cX7_init 26 = .ok (.aload_n 0, 1) := by decide +kernel
theorem dX7_init_27 : decode cX7_init 27 = .ok (.new 23, 3) := by decide +kernel
theorem dX7_init_30 : decode cX7_init 30 = .ok (.dup, 1) := by decide +kernel
theorem dX7_init_31 : decode cX7_init 31 = .ok (.aload_n 0, 1) := by decide +kernel
theorem dX7_init_32 : decode cX7_init 32 = .ok (.getfield 10, 3) := by decide +kernel
theorem dX7_init_35 : decode cX7_init 35 = .ok (.invokespecial 25, 3) := by decide +kernel
theorem dX7_init_38 : decode cX7_init 38 = .ok (.putfield 28, 3) := by decide +kernel
theorem dX7_init_41 : decode cX7_init 41 = .ok (.aload_n 0, 1) := by decide +kernel
theorem dX7_init_42 : decode cX7_init 42 = .ok (.new 23, 3) := by decide +kernel
theorem dX7_init_45 : decode cX7_init 45 = .ok (.dup, 1) := by decide +kernel
theorem dX7_init_46 : decode cX7_init 46 = .ok (.aload_n 0, 1) := by decide +kernel
theorem dX7_init_47 : decode cX7_init 47 = .ok (.getfield 10, 3) := by decide +kernel
theorem dX7_init_50 : decode cX7_init 50 = .ok (.invokespecial 25, 3) := by decide +kernel
theorem dX7_init_53 : decode cX7_init 53 = .ok (.putfield 32, 3) := by decide +kernel
theorem dX7_init_56 : decode cX7_init 56 = .ok (.aload_n 0, 1) := by decide +kernel
theorem dX7_init_57 : decode cX7_init 57 = .ok (.new 35, 3) := by decide +kernel
theorem dX7_init_60 : decode cX7_init 60 = .ok (.dup, 1) := by decide +kernel
theorem dX7_init_61 : decode cX7_init 61 = .ok (.invokespecial 37, 3) := by decide +kernel
theorem dX7_init_64 : decode cX7_init 64 = .ok (.putfield 38, 3) := by decide +kernel
theorem dX7_init_67 : decode cX7_init 67 = .ok (.aload_n 0, 1) := by decide +kernel
theorem dX7_init_68 : decode cX7_init 68 = .ok (.bipush 64, 2) := by decide +kernel
theorem dX7_init_70 : decode cX7_init 70 = .ok (.newarray .int, 2) := by decide +kernel
theorem dX7_init_72 : decode cX7_init 72 = .ok (.putfield 42, 3) := by decide +kernel
theorem dX7_init_75 : decode cX7_init 75 = .ok (.aload_n 0, 1) := by decide +kernel
theorem dX7_init_76 : decode cX7_init 76 = .ok (.bipush 6, 2) := by decide +kernel
theorem dX7_init_78 : decode cX7_init 78 = .ok (.newarray .int, 2) := by decide +kernel
theorem dX7_init_80 : decode cX7_init 80 = .ok (.putfield 46, 3) := by decide +kernel
theorem dX7_init_83 : decode cX7_init 83 = .ok (.aload_n 0, 1) := by decide +kernel
theorem dX7_init_84 : decode cX7_init 84 = .ok (.bipush 6, 2) := by decide +kernel
theorem dX7_init_86 : decode cX7_init 86 = .ok (.newarray .int, 2) := by decide +kernel
theorem dX7_init_88 : decode cX7_init 88 = .ok (.putfield 49, 3) := by decide +kernel
theorem dX7_init_91 : decode cX7_init 91 = .ok (.return_, 1) := by decide +kernel
theorem dX7_record_0 : decode cX7_record 0 = .ok (.iload_n 2, 1) := by decide +kernel
theorem dX7_record_1 : decode cX7_record 1 = .ok (.invokestatic 52, 3) := by decide +kernel
theorem dX7_record_4 : decode cX7_record 4 = .ok (.iload_n 1, 1) := by decide +kernel
theorem dX7_record_5 : decode cX7_record 5 = .ok (.iload_n 2, 1) := by decide +kernel
theorem dX7_record_6 : decode cX7_record 6 = .ok (.iload_n 3, 1) := by decide +kernel
theorem dX7_record_7 : decode cX7_record 7 = .ok (.invokestatic 56, 3) := by decide +kernel
theorem dX7_record_10 : decode cX7_record 10 = .ok (.ifCond .ne 13, 3) := by decide +kernel
theorem dX7_record_13 : decode cX7_record 13 = .ok (.new 60, 3) := by decide +kernel
theorem dX7_record_16 : decode cX7_record 16 = .ok (.dup, 1) := by decide +kernel
theorem dX7_record_17 : decode cX7_record 17 = .ok (.ldc 62, 2) := by decide +kernel
theorem dX7_record_19 : decode cX7_record 19 = .ok (.invokespecial 64, 3) := by decide +kernel
theorem dX7_record_22 : decode cX7_record 22 = .ok (.athrow, 1) := by decide +kernel
theorem dX7_record_23 : decode cX7_record 23 = .ok (.aload_n 0, 1) := by decide +kernel
theorem dX7_record_24 : decode cX7_record 24 = .ok (.getfield 10, 3) := by decide +kernel
theorem dX7_record_27 : decode cX7_record 27 = .ok (.invokevirtual 67, 3) := by decide +kernel
theorem dX7_record_30 : decode cX7_record 30 = .ok (.ifCond .eq 13, 3) := by decide +kernel
theorem dX7_record_33 : decode cX7_record 33 = .ok (.new 71, 3) := by decide +kernel
theorem dX7_record_36 : decode cX7_record 36 = .ok (.dup, 1) := by decide +kernel
theorem dX7_record_37 : decode cX7_record 37 = .ok (.ldc 73, 2) := by decide +kernel
theorem dX7_record_39 : decode cX7_record 39 = .ok (.invokespecial 75, 3) := by decide +kernel
theorem dX7_record_42 : decode cX7_record 42 = .ok (.athrow, 1) := by decide +kernel
theorem dX7_record_43 : decode cX7_record 43 = .ok (.aload_n 0, 1) := by decide +kernel
theorem dX7_record_44 : decode cX7_record 44 = .ok (.getfield 19, 3) := by decide +kernel
theorem dX7_record_47 : decode cX7_record 47 = .ok (.aload_n 0, 1) := by decide +kernel
theorem dX7_record_48 : decode cX7_record 48 = .ok (.getfield 10, 3) := by decide +kernel
theorem dX7_record_51 : decode cX7_record 51 = .ok (.invokevirtual 76, 3) := by decide +kernel
theorem dX7_record_54 : decode cX7_record 54 = .ok (.aload_n 0, 1) := by decide +kernel
theorem dX7_record_55 : decode cX7_record 55 = .ok (.getfield 10, 3) := by decide +kernel
theorem dX7_record_58 : decode cX7_record 58 = .ok (.iload_n 1, 1) := by decide +kernel
theorem dX7_record_59 : decode cX7_record 59 = .ok (.iload_n 2, 1) := by decide +kernel
theorem dX7_record_60 : decode cX7_record 60 = .ok (.iload_n 3, 1) := by decide +kernel
theorem dX7_record_61 : decode cX7_record 61 = .ok (.invokevirtual 79, 3) := by decide +kernel
theorem dX7_record_64 : decode cX7_record 64 = .ok (.ireturn, 1) := by decide +kernel
theorem dX7_erase_0 : decode cX7_erase 0 = .ok (.aload_n 0, 1) := by decide +kernel
theorem dX7_erase_1 : decode cX7_erase 1 = .ok (.iload_n 1, 1) := by decide +kernel
theorem dX7_erase_2 : decode cX7_erase 2 = .ok (.invokevirtual 83, 3) := by decide +kernel
theorem dX7_erase_5 : decode cX7_erase 5 = .ok (.aload_n 0, 1) := by decide +kernel
theorem dX7_erase_6 : decode cX7_erase 6 = .ok (.getfield 19, 3) := by decide +kernel
theorem dX7_erase_9 : decode cX7_erase 9 = .ok (.aload_n 0, 1) := by decide +kernel
theorem dX7_erase_10 : decode cX7_erase 10 = .ok (.getfield 10, 3) := by decide +kernel
theorem dX7_erase_13 : decode cX7_erase 13 = .ok (.invokevirtual 76, 3) := by decide +kernel
theorem dX7_erase_16 : decode cX7_erase 16 = .ok (.aload_n 0, 1) := by decide +kernel
theorem dX7_erase_17 : decode cX7_erase 17 = .ok (.getfield 10, 3) := by decide +kernel
theorem dX7_erase_20 : decode cX7_erase 20 = .ok (.iload_n 1, 1) := by decide +kernel
theorem dX7_erase_21 : decode cX7_erase 21 = .ok (.invokevirtual 86, 3) := by decide +kernel
theorem dX7_erase_24 : decode cX7_erase 24 = .ok (.aload_n 0, 1) := by decide +kernel
theorem dX7_erase_25 : decode cX7_erase 25 = .ok (.getfield 10, 3) := by decide +kernel
theorem dX7_erase_28 : decode cX7_erase 28 = .ok (.getfield 89, 3) := by decide +kernel
theorem dX7_erase_31 : decode cX7_erase 31 = .ok (.ireturn, 1) := by decide +kernel
theorem dX7_packets_0 : decode cX7_packets 0 = .ok (.aload_n 0, 1) := by decide +kernel
theorem dX7_packets_1 : decode cX7_packets 1 = .ok (.getfield 10, 3) := by decide +kernel
theorem dX7_packets_4 : decode cX7_packets 4 = .ok (.getfield 89, 3) := by decide +kernel
theorem dX7_packets_7 : decode cX7_packets 7 = .ok (.ireturn, 1) := by decide +kernel
theorem dX7_packet_0 : decode cX7_packet 0 = .ok (.aload_n 0, 1) := by decide +kernel
theorem dX7_packet_1 : decode cX7_packet 1 = .ok (.iload_n 1, 1) := by decide +kernel
theorem dX7_packet_2 : decode cX7_packet 2 = .ok (.invokevirtual 83, 3) := by decide +kernel
theorem dX7_packet_5 : decode cX7_packet 5 = .ok (.iload_n 2, 1) := by decide +kernel
theorem dX7_packet_6 : decode cX7_packet 6 = .ok (.tableswitch 56 0 2 #[26, 36, 46], 26) := by decide +kernel
theorem dX7_packet_32 : decode cX7_packet 32 = .ok (.aload_n 0, 1) := by decide +kernel
theorem dX7_packet_33 : decode cX7_packet 33 = .ok (.getfield 10, 3) := by decide +kernel
theorem dX7_packet_36 : decode cX7_packet 36 = .ok (.getfield 93, 3) := by decide +kernel
theorem dX7_packet_39 : decode cX7_packet 39 = .ok (.iload_n 1, 1) := by decide +kernel
theorem dX7_packet_40 : decode cX7_packet 40 = .ok (.iaload, 1) := by decide +kernel
theorem dX7_packet_41 : decode cX7_packet 41 = .ok (.ireturn, 1) := by decide +kernel
theorem dX7_packet_42 : decode cX7_packet 42 = .ok (.aload_n 0, 1) := by decide +kernel
theorem dX7_packet_43 : decode cX7_packet 43 = .ok (.getfield 10, 3) := by decide +kernel
theorem dX7_packet_46 : decode cX7_packet 46 = .ok (.getfield 96, 3) := by decide +kernel
theorem dX7_packet_49 : decode cX7_packet 49 = .ok (.iload_n 1, 1) := by decide +kernel
theorem dX7_packet_50 : decode cX7_packet 50 = .ok (.iaload, 1) := by decide +kernel
theorem dX7_packet_51 : decode cX7_packet 51 = .ok (.ireturn, 1) := by decide +kernel
theorem dX7_packet_52 : decode cX7_packet 52 = .ok (.aload_n 0, 1) := by decide +kernel
theorem dX7_packet_53 : decode cX7_packet 53 = .ok (.getfield 10, 3) := by decide +kernel
theorem dX7_packet_56 : decode cX7_packet 56 = .ok (.getfield 99, 3) := by decide +kernel
theorem dX7_packet_59 : decode cX7_packet 59 = .ok (.iload_n 1, 1) := by decide +kernel
theorem dX7_packet_60 : decode cX7_packet 60 = .ok (.iaload, 1) := by decide +kernel
theorem dX7_packet_61 : decode cX7_packet 61 = .ok (.ireturn, 1) := by decide +kernel
theorem dX7_packet_62 : decode cX7_packet 62 = .ok (.new 60, 3) := by decide +kernel
theorem dX7_packet_65 : decode cX7_packet 65 = .ok (.dup, 1) := by decide +kernel
theorem dX7_packet_66 : decode cX7_packet 66 = .ok (.ldc 102, 2) := by decide +kernel
theorem dX7_packet_68 : decode cX7_packet 68 = .ok (.invokespecial 64, 3) := by decide +kernel
theorem dX7_packet_71 : decode cX7_packet 71 = .ok (.athrow, 1) := by decide +kernel
theorem dX7_setCapacity_0 : decode cX7_setCapacity 0 = .ok (.aload_n 0, 1) := by decide +kernel
theorem dX7_setCapacity_1 : decode cX7_setCapacity 1 = .ok (.iconst 0, 1) := by decide +kernel
theorem dX7_setCapacity_2 : decode cX7_setCapacity 2 = .ok (.iload_n 1, 1) := by decide +kernel
theorem dX7_setCapacity_3 : decode cX7_setCapacity 3 = .ok (.invokevirtual 104, 3) := by decide +kernel
theorem dX7_setCapacity_6 : decode cX7_setCapacity 6 = .ok (.ireturn, 1) := by decide +kernel
theorem dX7_setRate_0 : decode cX7_setRate 0 = .ok (.aload_n 0, 1) := by decide +kernel
theorem dX7_setRate_1 : decode cX7_setRate 1 = .ok (.iconst 1, 1) := by decide +kernel
theorem dX7_setRate_2 : decode cX7_setRate 2 = .ok (.iload_n 1, 1) := by decide +kernel
theorem dX7_setRate_3 : decode cX7_setRate 3 = .ok (.invokevirtual 104, 3) := by decide +kernel
theorem dX7_setRate_6 : decode cX7_setRate 6 = .ok (.ireturn, 1) := by decide +kernel
theorem dX7_setPolicy_0 : decode cX7_setPolicy 0 = .ok (.aload_n 0, 1) := by decide +kernel
theorem dX7_setPolicy_1 : decode cX7_setPolicy 1 = .ok (.iconst 2, 1) := by decide +kernel
theorem dX7_setPolicy_2 : decode cX7_setPolicy 2 = .ok (.iload_n 1, 1) := by decide +kernel
theorem dX7_setPolicy_3 : decode cX7_setPolicy 3 = .ok (.invokevirtual 104, 3) := by decide +kernel
theorem dX7_setPolicy_6 : decode cX7_setPolicy 6 = .ok (.ireturn, 1) := by decide +kernel
theorem dX7_setScheduler_0 : decode cX7_setScheduler 0 = .ok (.aload_n 0, 1) := by decide +kernel
theorem dX7_setScheduler_1 : decode cX7_setScheduler 1 = .ok (.iconst 3, 1) := by decide +kernel
theorem dX7_setScheduler_2 : decode cX7_setScheduler 2 = .ok (.iload_n 1, 1) := by decide +kernel
theorem dX7_setScheduler_3 : decode cX7_setScheduler 3 = .ok (.invokevirtual 104, 3) := by decide +kernel
theorem dX7_setScheduler_6 : decode cX7_setScheduler 6 = .ok (.ireturn, 1) := by decide +kernel
theorem dX7_setFactor_0 : decode cX7_setFactor 0 = .ok (.aload_n 0, 1) := by decide +kernel
theorem dX7_setFactor_1 : decode cX7_setFactor 1 = .ok (.iconst 4, 1) := by decide +kernel
theorem dX7_setFactor_2 : decode cX7_setFactor 2 = .ok (.iload_n 1, 1) := by decide +kernel
theorem dX7_setFactor_3 : decode cX7_setFactor 3 = .ok (.invokevirtual 104, 3) := by decide +kernel
theorem dX7_setFactor_6 : decode cX7_setFactor 6 = .ok (.ireturn, 1) := by decide +kernel
theorem dX7_setThreshold_0 : decode cX7_setThreshold 0 = .ok (.aload_n 0, 1) := by decide +kernel
theorem dX7_setThreshold_1 : decode cX7_setThreshold 1 = .ok (.iconst 5, 1) := by decide +kernel
theorem dX7_setThreshold_2 : decode cX7_setThreshold 2 = .ok (.iload_n 1, 1) := by decide +kernel
theorem dX7_setThreshold_3 : decode cX7_setThreshold 3 = .ok (.invokevirtual 104, 3) := by decide +kernel
theorem dX7_setThreshold_6 : decode cX7_setThreshold 6 = .ok (.ireturn, 1) := by decide +kernel
theorem dX7_setInterval_0 : decode cX7_setInterval 0 = .ok (.aload_n 0, 1) := by decide +kernel
theorem dX7_setInterval_1 : decode cX7_setInterval 1 = .ok (.bipush 6, 2) := by decide +kernel
theorem dX7_setInterval_3 : decode cX7_setInterval 3 = .ok (.iload_n 1, 1) := by decide +kernel
theorem dX7_setInterval_4 : decode cX7_setInterval 4 = .ok (.invokevirtual 104, 3) := by decide +kernel
theorem dX7_setInterval_7 : decode cX7_setInterval 7 = .ok (.ireturn, 1) := by decide +kernel
theorem dX7_setMeasure_0 : decode cX7_setMeasure 0 = .ok (.aload_n 0, 1) := by decide +kernel
theorem dX7_setMeasure_1 : decode cX7_setMeasure 1 = .ok (.bipush 7, 2) := by decide +kernel
theorem dX7_setMeasure_3 : decode cX7_setMeasure 3 = .ok (.iload_n 1, 1) := by decide +kernel
theorem dX7_setMeasure_4 : decode cX7_setMeasure 4 = .ok (.invokevirtual 104, 3) := by decide +kernel
theorem dX7_setMeasure_7 : decode cX7_setMeasure 7 = .ok (.ireturn, 1) := by decide +kernel
theorem dX7_setPriority_0 : decode cX7_setPriority 0 = .ok (.iload_n 1, 1) := by decide +kernel
theorem dX7_setPriority_1 : decode cX7_setPriority 1 = .ok (.invokestatic 52, 3) := by decide +kernel
theorem dX7_setPriority_4 : decode cX7_setPriority 4 = .ok (.aload_n 0, 1) := by decide +kernel
theorem dX7_setPriority_5 : decode cX7_setPriority 5 = .ok (.bipush 8, 2) := by decide +kernel
theorem dX7_setPriority_7 : decode cX7_setPriority 7 = .ok (.iload_n 1, 1) := by decide +kernel
theorem dX7_setPriority_8 : decode cX7_setPriority 8 = .ok (.iadd, 1) := by decide +kernel
theorem dX7_setPriority_9 : decode cX7_setPriority 9 = .ok (.iload_n 2, 1) := by decide +kernel
theorem dX7_setPriority_10 : decode cX7_setPriority 10 = .ok (.invokevirtual 104, 3) := by decide +kernel
theorem dX7_setPriority_13 : decode cX7_setPriority 13 = .ok (.ireturn, 1) := by decide +kernel
theorem dX7_replay_0 : decode cX7_replay 0 = .ok (.iload_n 1, 1) := by decide +kernel
theorem dX7_replay_1 : decode cX7_replay 1 = .ok (.invokestatic 108, 3) := by decide +kernel
theorem dX7_replay_4 : decode cX7_replay 4 = .ok (.aload_n 0, 1) := by decide +kernel
theorem dX7_replay_5 : decode cX7_replay 5 = .ok (.getfield 28, 3) := by decide +kernel
theorem dX7_replay_8 : decode cX7_replay 8 = .ok (.iload_n 1, 1) := by decide +kernel
theorem dX7_replay_9 : decode cX7_replay 9 = .ok (.aload_n 0, 1) := by decide +kernel
theorem dX7_replay_10 : decode cX7_replay 10 = .ok (.getfield 10, 3) := by decide +kernel
theorem dX7_replay_13 : decode cX7_replay 13 = .ok (.getfield 111, 3) := by decide +kernel
theorem dX7_replay_16 : decode cX7_replay 16 = .ok (.iconst 0, 1) := by decide +kernel
theorem dX7_replay_17 : decode cX7_replay 17 = .ok (.iaload, 1) := by decide +kernel
theorem dX7_replay_18 : decode cX7_replay 18 = .ok (.aload_n 0, 1) := by decide +kernel
theorem dX7_replay_19 : decode cX7_replay 19 = .ok (.getfield 10, 3) := by decide +kernel
theorem dX7_replay_22 : decode cX7_replay 22 = .ok (.getfield 111, 3) := by decide +kernel
theorem dX7_replay_25 : decode cX7_replay 25 = .ok (.iconst 2, 1) := by decide +kernel
theorem dX7_replay_26 : decode cX7_replay 26 = .ok (.iaload, 1) := by decide +kernel
theorem dX7_replay_27 : decode cX7_replay 27 = .ok (.invokevirtual 114, 3) := by decide +kernel
theorem dX7_replay_30 : decode cX7_replay 30 = .ok (.aload_n 0, 1) := by decide +kernel
theorem dX7_replay_31 : decode cX7_replay 31 = .ok (.getfield 28, 3) := by decide +kernel
theorem dX7_replay_34 : decode cX7_replay 34 = .ok (.getfield 118, 3) := by decide +kernel
theorem dX7_replay_37 : decode cX7_replay 37 = .ok (.getfield 122, 3) := by decide +kernel
theorem dX7_replay_40 : decode cX7_replay 40 = .ok (.ireturn, 1) := by decide +kernel
theorem dX7_fate_0 : decode cX7_fate 0 = .ok (.aload_n 0, 1) := by decide +kernel
theorem dX7_fate_1 : decode cX7_fate 1 = .ok (.getfield 28, 3) := by decide +kernel
theorem dX7_fate_4 : decode cX7_fate 4 = .ok (.getfield 118, 3) := by decide +kernel
theorem dX7_fate_7 : decode cX7_fate 7 = .ok (.iload_n 1, 1) := by decide +kernel
theorem dX7_fate_8 : decode cX7_fate 8 = .ok (.invokevirtual 127, 3) := by decide +kernel
theorem dX7_fate_11 : decode cX7_fate 11 = .ok (.ireturn, 1) := by decide +kernel
theorem dX7_loadAt_0 : decode cX7_loadAt 0 = .ok (.aload_n 0, 1) := by decide +kernel
theorem dX7_loadAt_1 : decode cX7_loadAt 1 = .ok (.getfield 28, 3) := by decide +kernel
theorem dX7_loadAt_4 : decode cX7_loadAt 4 = .ok (.getfield 118, 3) := by decide +kernel
theorem dX7_loadAt_7 : decode cX7_loadAt 7 = .ok (.iload_n 1, 1) := by decide +kernel
theorem dX7_loadAt_8 : decode cX7_loadAt 8 = .ok (.invokevirtual 131, 3) := by decide +kernel
theorem dX7_loadAt_11 : decode cX7_loadAt 11 = .ok (.ireturn, 1) := by decide +kernel
theorem dX7_peak_0 : decode cX7_peak 0 = .ok (.aload_n 0, 1) := by decide +kernel
theorem dX7_peak_1 : decode cX7_peak 1 = .ok (.getfield 28, 3) := by decide +kernel
theorem dX7_peak_4 : decode cX7_peak 4 = .ok (.getfield 118, 3) := by decide +kernel
theorem dX7_peak_7 : decode cX7_peak 7 = .ok (.invokevirtual 134, 3) := by decide +kernel
theorem dX7_peak_10 : decode cX7_peak 10 = .ok (.ireturn, 1) := by decide +kernel
theorem dX7_dropped_0 : decode cX7_dropped 0 = .ok (.aload_n 0, 1) := by decide +kernel
theorem dX7_dropped_1 : decode cX7_dropped 1 = .ok (.getfield 28, 3) := by decide +kernel
theorem dX7_dropped_4 : decode cX7_dropped 4 = .ok (.getfield 118, 3) := by decide +kernel
theorem dX7_dropped_7 : decode cX7_dropped 7 = .ok (.iload_n 1, 1) := by decide +kernel
theorem dX7_dropped_8 : decode cX7_dropped 8 = .ok (.invokevirtual 138, 3) := by decide +kernel
theorem dX7_dropped_11 : decode cX7_dropped 11 = .ok (.ireturn, 1) := by decide +kernel
theorem dX7_worth_0 : decode cX7_worth 0 = .ok (.iload_n 1, 1) := by decide +kernel
theorem dX7_worth_1 : decode cX7_worth 1 = .ok (.invokestatic 108, 3) := by decide +kernel
theorem dX7_worth_4 : decode cX7_worth 4 = .ok (.aload_n 0, 1) := by decide +kernel
theorem dX7_worth_5 : decode cX7_worth 5 = .ok (.iload_n 1, 1) := by decide +kernel
theorem dX7_worth_6 : decode cX7_worth 6 = .ok (.iconst (-1), 1) := by decide +kernel
theorem dX7_worth_7 : decode cX7_worth 7 = .ok (.invokevirtual 141, 3) := by decide +kernel
theorem dX7_worth_10 : decode cX7_worth 10 = .ok (.ireturn, 1) := by decide +kernel
theorem dX7_worthFor_0 : decode cX7_worthFor 0 = .ok (.iload_n 2, 1) := by decide +kernel
theorem dX7_worthFor_1 : decode cX7_worthFor 1 = .ok (.invokestatic 52, 3) := by decide +kernel
theorem dX7_worthFor_4 : decode cX7_worthFor 4 = .ok (.iload_n 1, 1) := by decide +kernel
theorem dX7_worthFor_5 : decode cX7_worthFor 5 = .ok (.invokestatic 108, 3) := by decide +kernel
theorem dX7_worthFor_8 : decode cX7_worthFor 8 = .ok (.aload_n 0, 1) := by decide +kernel
theorem dX7_worthFor_9 : decode cX7_worthFor 9 = .ok (.iload_n 1, 1) := by decide +kernel
theorem dX7_worthFor_10 : decode cX7_worthFor 10 = .ok (.iload_n 2, 1) := by decide +kernel
theorem dX7_worthFor_11 : decode cX7_worthFor 11 = .ok (.invokevirtual 141, 3) := by decide +kernel
theorem dX7_worthFor_14 : decode cX7_worthFor 14 = .ok (.ireturn, 1) := by decide +kernel
theorem dX7_contribution_0 : decode cX7_contribution 0 = .ok (.iload_n 1, 1) := by decide +kernel
theorem dX7_contribution_1 : decode cX7_contribution 1 = .ok (.invokestatic 52, 3) := by decide +kernel
theorem dX7_contribution_4 : decode cX7_contribution 4 = .ok (.iload_n 2, 1) := by decide +kernel
theorem dX7_contribution_5 : decode cX7_contribution 5 = .ok (.invokestatic 108, 3) := by decide +kernel
theorem dX7_contribution_8 : decode cX7_contribution 8 = .ok (.iload_n 2, 1) := by decide +kernel
theorem dX7_contribution_9 : decode cX7_contribution 9 = .ok (.iload_n 1, 1) := by decide +kernel
theorem dX7_contribution_10 : decode cX7_contribution 10 = .ok (.invokestatic 144, 3) := by decide +kernel
theorem dX7_contribution_13 : decode cX7_contribution 13 = .ok (.ifCond .eq 13, 3) := by decide +kernel
theorem dX7_contribution_16 : decode cX7_contribution 16 = .ok (.new 60, 3) := by decide +kernel
theorem dX7_contribution_19 : decode cX7_contribution 19 = .ok (.dup, 1) := by decide +kernel
theorem dX7_contribution_20 : decode cX7_contribution 20 = .ok (.ldc 148, 2) := by decide +kernel
theorem dX7_contribution_22 : decode cX7_contribution 22 = .ok (.invokespecial 64, 3) := by decide +kernel
theorem dX7_contribution_25 : decode cX7_contribution 25 = .ok (.athrow, 1) := by decide +kernel
theorem dX7_contribution_26 : decode cX7_contribution 26 = .ok (.aload_n 0, 1) := by decide +kernel
theorem dX7_contribution_27 : decode cX7_contribution 27 = .ok (.iload_n 2, 1) := by decide +kernel
theorem dX7_contribution_28 : decode cX7_contribution 28 = .ok (.iconst 1, 1) := by decide +kernel
theorem dX7_contribution_29 : decode cX7_contribution 29 = .ok (.iload_n 1, 1) := by decide +kernel
theorem dX7_contribution_30 : decode cX7_contribution 30 = .ok (.ishl, 1) := by decide +kernel
theorem dX7_contribution_31 : decode cX7_contribution 31 = .ok (.ior, 1) := by decide +kernel
theorem dX7_contribution_32 : decode cX7_contribution 32 = .ok (.iconst (-1), 1) := by decide +kernel
theorem dX7_contribution_33 : decode cX7_contribution 33 = .ok (.invokevirtual 141, 3) := by decide +kernel
theorem dX7_contribution_36 : decode cX7_contribution 36 = .ok (.aload_n 0, 1) := by decide +kernel
theorem dX7_contribution_37 : decode cX7_contribution 37 = .ok (.iload_n 2, 1) := by decide +kernel
theorem dX7_contribution_38 : decode cX7_contribution 38 = .ok (.iconst (-1), 1) := by decide +kernel
theorem dX7_contribution_39 : decode cX7_contribution 39 = .ok (.invokevirtual 141, 3) := by decide +kernel
theorem dX7_contribution_42 : decode cX7_contribution 42 = .ok (.isub, 1) := by decide +kernel
theorem dX7_contribution_43 : decode cX7_contribution 43 = .ok (.ireturn, 1) := by decide +kernel
theorem dX7_blame_0 : decode cX7_blame 0 = .ok (.iload_n 1, 1) := by decide +kernel
theorem dX7_blame_1 : decode cX7_blame 1 = .ok (.invokestatic 52, 3) := by decide +kernel
theorem dX7_blame_4 : decode cX7_blame 4 = .ok (.iload_n 2, 1) := by decide +kernel
theorem dX7_blame_5 : decode cX7_blame 5 = .ok (.invokestatic 150, 3) := by decide +kernel
theorem dX7_blame_8 : decode cX7_blame 8 = .ok (.aload_n 0, 1) := by decide +kernel
theorem dX7_blame_9 : decode cX7_blame 9 = .ok (.iconst (-1), 1) := by decide +kernel
theorem dX7_blame_10 : decode cX7_blame 10 = .ok (.invokevirtual 153, 3) := by decide +kernel
theorem dX7_blame_13 : decode cX7_blame 13 = .ok (.aload_n 0, 1) := by decide +kernel
theorem dX7_blame_14 : decode cX7_blame 14 = .ok (.iload_n 1, 1) := by decide +kernel
theorem dX7_blame_15 : decode cX7_blame 15 = .ok (.invokevirtual 156, 3) := by decide +kernel
theorem dX7_blame_18 : decode cX7_blame 18 = .ok (.sipush 720, 3) := by decide +kernel
theorem dX7_blame_21 : decode cX7_blame 21 = .ok (.iload_n 2, 1) := by decide +kernel
theorem dX7_blame_22 : decode cX7_blame 22 = .ok (.invokestatic 159, 3) := by decide +kernel
theorem dX7_blame_25 : decode cX7_blame 25 = .ok (.ireturn, 1) := by decide +kernel
theorem dX7_blameFor_0 : decode cX7_blameFor 0 = .ok (.iload_n 1, 1) := by decide +kernel
theorem dX7_blameFor_1 : decode cX7_blameFor 1 = .ok (.invokestatic 52, 3) := by decide +kernel
theorem dX7_blameFor_4 : decode cX7_blameFor 4 = .ok (.iload_n 2, 1) := by decide +kernel
theorem dX7_blameFor_5 : decode cX7_blameFor 5 = .ok (.invokestatic 52, 3) := by decide +kernel
theorem dX7_blameFor_8 : decode cX7_blameFor 8 = .ok (.iload_n 3, 1) := by decide +kernel
theorem dX7_blameFor_9 : decode cX7_blameFor 9 = .ok (.invokestatic 150, 3) := by decide +kernel
theorem dX7_blameFor_12 : decode cX7_blameFor 12 = .ok (.aload_n 0, 1) := by decide +kernel
theorem dX7_blameFor_13 : decode cX7_blameFor 13 = .ok (.iload_n 2, 1) := by decide +kernel
theorem dX7_blameFor_14 : decode cX7_blameFor 14 = .ok (.invokevirtual 153, 3) := by decide +kernel
theorem dX7_blameFor_17 : decode cX7_blameFor 17 = .ok (.aload_n 0, 1) := by decide +kernel
theorem dX7_blameFor_18 : decode cX7_blameFor 18 = .ok (.iload_n 1, 1) := by decide +kernel
theorem dX7_blameFor_19 : decode cX7_blameFor 19 = .ok (.invokevirtual 156, 3) := by decide +kernel
theorem dX7_blameFor_22 : decode cX7_blameFor 22 = .ok (.sipush 720, 3) := by decide +kernel
theorem dX7_blameFor_25 : decode cX7_blameFor 25 = .ok (.iload_n 3, 1) := by decide +kernel
theorem dX7_blameFor_26 : decode cX7_blameFor 26 = .ok (.invokestatic 159, 3) := by decide +kernel
theorem dX7_blameFor_29 : decode cX7_blameFor 29 = .ok (.ireturn, 1) := by decide +kernel
theorem dX7_index_0 : decode cX7_index 0 = .ok (.iload_n 1, 1) := by decide +kernel
theorem dX7_index_1 : decode cX7_index 1 = .ok (.invokestatic 52, 3) := by decide +kernel
theorem dX7_index_4 : decode cX7_index 4 = .ok (.iload_n 2, 1) := by decide +kernel
theorem dX7_index_5 : decode cX7_index 5 = .ok (.invokestatic 150, 3) := by decide +kernel
theorem dX7_index_8 : decode cX7_index 8 = .ok (.aload_n 0, 1) := by decide +kernel
theorem dX7_index_9 : decode cX7_index 9 = .ok (.iconst (-1), 1) := by decide +kernel
theorem dX7_index_10 : decode cX7_index 10 = .ok (.invokevirtual 153, 3) := by decide +kernel
theorem dX7_index_13 : decode cX7_index 13 = .ok (.aload_n 0, 1) := by decide +kernel
theorem dX7_index_14 : decode cX7_index 14 = .ok (.iload_n 1, 1) := by decide +kernel
theorem dX7_index_15 : decode cX7_index 15 = .ok (.invokevirtual 162, 3) := by decide +kernel
theorem dX7_index_18 : decode cX7_index 18 = .ok (.bipush 32, 2) := by decide +kernel
theorem dX7_index_20 : decode cX7_index 20 = .ok (.iload_n 2, 1) := by decide +kernel
theorem dX7_index_21 : decode cX7_index 21 = .ok (.invokestatic 159, 3) := by decide +kernel
theorem dX7_index_24 : decode cX7_index 24 = .ok (.ireturn, 1) := by decide +kernel
theorem dX7_interaction_0 : decode cX7_interaction 0 = .ok (.iload_n 1, 1) := by decide +kernel
theorem dX7_interaction_1 : decode cX7_interaction 1 = .ok (.invokestatic 52, 3) := by decide +kernel
theorem dX7_interaction_4 : decode cX7_interaction 4 = .ok (.iload_n 2, 1) := by decide +kernel
theorem dX7_interaction_5 : decode cX7_interaction 5 = .ok (.invokestatic 52, 3) := by decide +kernel
theorem dX7_interaction_8 : decode cX7_interaction 8 = .ok (.iload_n 1, 1) := by decide +kernel
theorem dX7_interaction_9 : decode cX7_interaction 9 = .ok (.iload_n 2, 1) := by decide +kernel
theorem dX7_interaction_10 : decode cX7_interaction 10 = .ok (.if_icmp .ne 13, 3) := by decide +kernel
theorem dX7_interaction_13 : decode cX7_interaction 13 = .ok (.new 60, 3) := by decide +kernel
theorem dX7_interaction_16 : decode cX7_interaction 16 = .ok (.dup, 1) := by decide +kernel
theorem dX7_interaction_17 : decode cX7_interaction 17 = .ok (.ldc 165, 2) := by decide +kernel
theorem dX7_interaction_19 : decode cX7_interaction 19 = .ok (.invokespecial 64, 3) := by decide +kernel
theorem dX7_interaction_22 : decode cX7_interaction 22 = .ok (.athrow, 1) := by decide +kernel
theorem dX7_interaction_23 : decode cX7_interaction 23 = .ok (.iload_n 3, 1) := by decide +kernel
theorem dX7_interaction_24 : decode cX7_interaction 24 = .ok (.invokestatic 150, 3) := by decide +kernel
theorem dX7_interaction_27 : decode cX7_interaction 27 = .ok (.aload_n 0, 1) := by decide +kernel
theorem dX7_interaction_28 : decode cX7_interaction 28 = .ok (.iconst (-1), 1) := by decide +kernel
theorem dX7_interaction_29 : decode cX7_interaction 29 = .ok (.invokevirtual 153, 3) := by decide +kernel
theorem dX7_interaction_32 : decode cX7_interaction 32 = .ok (.aload_n 0, 1) := by decide +kernel
theorem dX7_interaction_33 : decode cX7_interaction 33 = .ok (.iload_n 1, 1) := by decide +kernel
theorem dX7_interaction_34 : decode cX7_interaction 34 = .ok (.iload_n 2, 1) := by decide +kernel
theorem dX7_interaction_35 : decode cX7_interaction 35 = .ok (.invokevirtual 167, 3) := by decide +kernel
theorem dX7_interaction_38 : decode cX7_interaction 38 = .ok (.bipush 16, 2) := by decide +kernel
theorem dX7_interaction_40 : decode cX7_interaction 40 = .ok (.iload_n 3, 1) := by decide +kernel
theorem dX7_interaction_41 : decode cX7_interaction 41 = .ok (.invokestatic 159, 3) := by decide +kernel
theorem dX7_interaction_44 : decode cX7_interaction 44 = .ok (.ireturn, 1) := by decide +kernel
theorem dX7_ranked_0 : decode cX7_ranked 0 = .ok (.iload_n 1, 1) := by decide +kernel
theorem dX7_ranked_1 : decode cX7_ranked 1 = .ok (.invokestatic 52, 3) := by decide +kernel
theorem dX7_ranked_4 : decode cX7_ranked 4 = .ok (.aload_n 0, 1) := by decide +kernel
theorem dX7_ranked_5 : decode cX7_ranked 5 = .ok (.iconst (-1), 1) := by decide +kernel
theorem dX7_ranked_6 : decode cX7_ranked 6 = .ok (.invokevirtual 153, 3) := by decide +kernel
theorem dX7_ranked_9 : decode cX7_ranked 9 = .ok (.iconst 0, 1) := by decide +kernel
theorem dX7_ranked_10 : decode cX7_ranked 10 = .ok (.istore_n 2, 1) := by decide +kernel
theorem dX7_ranked_11 : decode cX7_ranked 11 = .ok (.iload_n 2, 1) := by decide +kernel
theorem dX7_ranked_12 : decode cX7_ranked 12 = .ok (.bipush 6, 2) := by decide +kernel
theorem dX7_ranked_14 : decode cX7_ranked 14 = .ok (.if_icmp .ge 20, 3) := by decide +kernel
theorem dX7_ranked_17 : decode cX7_ranked 17 = .ok (.aload_n 0, 1) := by decide +kernel
theorem dX7_ranked_18 : decode cX7_ranked 18 = .ok (.getfield 46, 3) := by decide +kernel
theorem dX7_ranked_21 : decode cX7_ranked 21 = .ok (.iload_n 2, 1) := by decide +kernel
theorem dX7_ranked_22 : decode cX7_ranked 22 = .ok (.aload_n 0, 1) := by decide +kernel
theorem dX7_ranked_23 : decode cX7_ranked 23 = .ok (.iload_n 2, 1) := by decide +kernel
theorem dX7_ranked_24 : decode cX7_ranked 24 = .ok (.invokevirtual 156, 3) := by decide +kernel
theorem dX7_ranked_27 : decode cX7_ranked 27 = .ok (.iastore, 1) := by decide +kernel
theorem dX7_ranked_28 : decode cX7_ranked 28 = .ok (.iinc 2 1, 3) := by decide +kernel
theorem dX7_ranked_31 : decode cX7_ranked 31 = .ok (.goto (-20), 3) := by decide +kernel
theorem dX7_ranked_34 : decode cX7_ranked 34 = .ok (.iconst (-1), 1) := by decide +kernel
theorem dX7_ranked_35 : decode cX7_ranked 35 = .ok (.istore_n 2, 1) := by decide +kernel
theorem dX7_ranked_36 : decode cX7_ranked 36 = .ok (.iconst 0, 1) := by decide +kernel
theorem dX7_ranked_37 : decode cX7_ranked 37 = .ok (.istore_n 3, 1) := by decide +kernel
theorem dX7_ranked_38 : decode cX7_ranked 38 = .ok (.iload_n 3, 1) := by decide +kernel
theorem dX7_ranked_39 : decode cX7_ranked 39 = .ok (.bipush 6, 2) := by decide +kernel
theorem dX7_ranked_41 : decode cX7_ranked 41 = .ok (.if_icmp .ge 20, 3) := by decide +kernel
theorem dX7_ranked_44 : decode cX7_ranked 44 = .ok (.aload_n 0, 1) := by decide +kernel
theorem dX7_ranked_45 : decode cX7_ranked 45 = .ok (.iload_n 3, 1) := by decide +kernel
theorem dX7_ranked_46 : decode cX7_ranked 46 = .ok (.invokevirtual 170, 3) := by decide +kernel
theorem dX7_ranked_49 : decode cX7_ranked 49 = .ok (.iload_n 1, 1) := by decide +kernel
theorem dX7_ranked_50 : decode cX7_ranked 50 = .ok (.if_icmp .ne 5, 3) := by decide +kernel
theorem dX7_ranked_53 : decode cX7_ranked 53 = .ok (.iload_n 3, 1) := by decide +kernel
theorem dX7_ranked_54 : decode cX7_ranked 54 = .ok (.istore_n 2, 1) := by decide +kernel
theorem dX7_ranked_55 : decode cX7_ranked 55 = .ok (.iinc 3 1, 3) := by decide +kernel
theorem dX7_ranked_58 : decode cX7_ranked 58 = .ok (.goto (-20), 3) := by decide +kernel
theorem dX7_ranked_61 : decode cX7_ranked 61 = .ok (.iload_n 2, 1) := by decide +kernel
theorem dX7_ranked_62 : decode cX7_ranked 62 = .ok (.ireturn, 1) := by decide +kernel
theorem dX7_sampled_0 : decode cX7_sampled 0 = .ok (.iload_n 1, 1) := by decide +kernel
theorem dX7_sampled_1 : decode cX7_sampled 1 = .ok (.invokestatic 52, 3) := by decide +kernel
theorem dX7_sampled_4 : decode cX7_sampled 4 = .ok (.iload_n 2, 1) := by decide +kernel
theorem dX7_sampled_5 : decode cX7_sampled 5 = .ok (.iconst 1, 1) := by decide +kernel
theorem dX7_sampled_6 : decode cX7_sampled 6 = .ok (.if_icmp .lt 13, 3) := by decide +kernel
theorem dX7_sampled_9 : decode cX7_sampled 9 = .ok (.iload_n 2, 1) := by decide +kernel
theorem dX7_sampled_10 : decode cX7_sampled 10 = .ok (.bipush 100, 2) := by decide +kernel
theorem dX7_sampled_12 : decode cX7_sampled 12 = .ok (.if_icmp .gt 7, 3) := by decide +kernel
theorem dX7_sampled_15 : decode cX7_sampled 15 = .ok (.iload_n 3, 1) := by decide +kernel
theorem dX7_sampled_16 : decode cX7_sampled 16 = .ok (.ifCond .ge 13, 3) := by decide +kernel
theorem dX7_sampled_19 : decode cX7_sampled 19 = .ok (.new 60, 3) := by decide +kernel
theorem dX7_sampled_22 : decode cX7_sampled 22 = .ok (.dup, 1) := by decide +kernel
theorem dX7_sampled_23 : decode cX7_sampled 23 = .ok (.ldc 173, 2) := by decide +kernel
theorem dX7_sampled_25 : decode cX7_sampled 25 = .ok (.invokespecial 64, 3) := by decide +kernel
theorem dX7_sampled_28 : decode cX7_sampled 28 = .ok (.athrow, 1) := by decide +kernel
theorem dX7_sampled_29 : decode cX7_sampled 29 = .ok (.aload_n 0, 1) := by decide +kernel
theorem dX7_sampled_30 : decode cX7_sampled 30 = .ok (.iconst (-1), 1) := by decide +kernel
theorem dX7_sampled_31 : decode cX7_sampled 31 = .ok (.invokevirtual 153, 3) := by decide +kernel
theorem dX7_sampled_34 : decode cX7_sampled 34 = .ok (.iload_n 3, 1) := by decide +kernel
theorem dX7_sampled_35 : decode cX7_sampled 35 = .ok (.i2l, 1) := by decide +kernel
theorem dX7_sampled_36 : decode cX7_sampled 36 = .ok (.lstore 4, 2) := by decide +kernel
theorem dX7_sampled_38 : decode cX7_sampled 38 = .ok (.iconst 0, 1) := by decide +kernel
theorem dX7_sampled_39 : decode cX7_sampled 39 = .ok (.istore 6, 2) := by decide +kernel
theorem dX7_sampled_41 : decode cX7_sampled 41 = .ok (.iconst 0, 1) := by decide +kernel
theorem dX7_sampled_42 : decode cX7_sampled 42 = .ok (.istore 7, 2) := by decide +kernel
theorem dX7_sampled_44 : decode cX7_sampled 44 = .ok (.iload 7, 2) := by decide +kernel
theorem dX7_sampled_46 : decode cX7_sampled 46 = .ok (.iload_n 2, 1) := by decide +kernel
theorem dX7_sampled_47 : decode cX7_sampled 47 = .ok (.if_icmp .ge 32, 3) := by decide +kernel
theorem dX7_sampled_50 : decode cX7_sampled 50 = .ok (.aload_n 0, 1) := by decide +kernel
theorem dX7_sampled_51 : decode cX7_sampled 51 = .ok (.lload 4, 2) := by decide +kernel
theorem dX7_sampled_53 : decode cX7_sampled 53 = .ok (.invokevirtual 175, 3) := by decide +kernel
theorem dX7_sampled_56 : decode cX7_sampled 56 = .ok (.lstore 4, 2) := by decide +kernel
theorem dX7_sampled_58 : decode cX7_sampled 58 = .ok (.iload 6, 2) := by decide +kernel
theorem dX7_sampled_60 : decode cX7_sampled 60 = .ok (.aload_n 0, 1) := by decide +kernel
theorem dX7_sampled_61 : decode cX7_sampled 61 = .ok (.aload_n 0, 1) := by decide +kernel
theorem dX7_sampled_62 : decode cX7_sampled 62 = .ok (.iload_n 1, 1) := by decide +kernel
theorem dX7_sampled_63 : decode cX7_sampled 63 = .ok (.invokevirtual 179, 3) := by decide +kernel
theorem dX7_sampled_66 : decode cX7_sampled 66 = .ok (.iload_n 1, 1) := by decide +kernel
theorem dX7_sampled_67 : decode cX7_sampled 67 = .ok (.invokevirtual 182, 3) := by decide +kernel
theorem dX7_sampled_70 : decode cX7_sampled 70 = .ok (.iadd, 1) := by decide +kernel
theorem dX7_sampled_71 : decode cX7_sampled 71 = .ok (.istore 6, 2) := by decide +kernel
theorem dX7_sampled_73 : decode cX7_sampled 73 = .ok (.iinc 7 1, 3) := by decide +kernel
theorem dX7_sampled_76 : decode cX7_sampled 76 = .ok (.goto (-32), 3) := by decide +kernel
theorem dX7_sampled_79 : decode cX7_sampled 79 = .ok (.iload 6, 2) := by decide +kernel
theorem dX7_sampled_81 : decode cX7_sampled 81 = .ok (.ireturn, 1) := by decide +kernel
theorem dX7_cause_0 : decode cX7_cause 0 = .ok (.aload_n 0, 1) := by decide +kernel
theorem dX7_cause_1 : decode cX7_cause 1 = .ok (.iload_n 1, 1) := by decide +kernel
theorem dX7_cause_2 : decode cX7_cause 2 = .ok (.invokevirtual 83, 3) := by decide +kernel
theorem dX7_cause_5 : decode cX7_cause 5 = .ok (.aload_n 0, 1) := by decide +kernel
theorem dX7_cause_6 : decode cX7_cause 6 = .ok (.iload_n 1, 1) := by decide +kernel
theorem dX7_cause_7 : decode cX7_cause 7 = .ok (.invokevirtual 185, 3) := by decide +kernel
theorem dX7_cause_10 : decode cX7_cause 10 = .ok (.ireturn, 1) := by decide +kernel
theorem dX7_suspects_0 : decode cX7_suspects 0 = .ok (.aload_n 0, 1) := by decide +kernel
theorem dX7_suspects_1 : decode cX7_suspects 1 = .ok (.iload_n 1, 1) := by decide +kernel
theorem dX7_suspects_2 : decode cX7_suspects 2 = .ok (.invokevirtual 83, 3) := by decide +kernel
theorem dX7_suspects_5 : decode cX7_suspects 5 = .ok (.aload_n 0, 1) := by decide +kernel
theorem dX7_suspects_6 : decode cX7_suspects 6 = .ok (.iload_n 1, 1) := by decide +kernel
theorem dX7_suspects_7 : decode cX7_suspects 7 = .ok (.invokevirtual 185, 3) := by decide +kernel
theorem dX7_suspects_10 : decode cX7_suspects 10 = .ok (.istore_n 2, 1) := by decide +kernel
theorem dX7_suspects_11 : decode cX7_suspects 11 = .ok (.iload_n 2, 1) := by decide +kernel
theorem dX7_suspects_12 : decode cX7_suspects 12 = .ok (.iconst (-1), 1) := by decide +kernel
theorem dX7_suspects_13 : decode cX7_suspects 13 = .ok (.if_icmp .eq 7, 3) := by decide +kernel
theorem dX7_suspects_16 : decode cX7_suspects 16 = .ok (.iload_n 2, 1) := by decide +kernel
theorem dX7_suspects_17 : decode cX7_suspects 17 = .ok (.ifCond .ne 5, 3) := by decide +kernel
theorem dX7_suspects_20 : decode cX7_suspects 20 = .ok (.iconst 0, 1) := by decide +kernel
theorem dX7_suspects_21 : decode cX7_suspects 21 = .ok (.ireturn, 1) := by decide +kernel
theorem dX7_suspects_22 : decode cX7_suspects 22 = .ok (.iload_n 2, 1) := by decide +kernel
theorem dX7_suspects_23 : decode cX7_suspects 23 = .ok (.istore_n 3, 1) := by decide +kernel
theorem dX7_suspects_24 : decode cX7_suspects 24 = .ok (.iload_n 2, 1) := by decide +kernel
theorem dX7_suspects_25 : decode cX7_suspects 25 = .ok (.iconst 1, 1) := by decide +kernel
theorem dX7_suspects_26 : decode cX7_suspects 26 = .ok (.iadd, 1) := by decide +kernel
theorem dX7_suspects_27 : decode cX7_suspects 27 = .ok (.istore 4, 2) := by decide +kernel
theorem dX7_suspects_29 : decode cX7_suspects 29 = .ok (.iload 4, 2) := by decide +kernel
theorem dX7_suspects_31 : decode cX7_suspects 31 = .ok (.bipush 64, 2) := by decide +kernel
theorem dX7_suspects_33 : decode cX7_suspects 33 = .ok (.if_icmp .ge 36, 3) := by decide +kernel
theorem dX7_suspects_36 : decode cX7_suspects 36 = .ok (.iload 4, 2) := by decide +kernel
theorem dX7_suspects_38 : decode cX7_suspects 38 = .ok (.invokestatic 188, 3) := by decide +kernel
theorem dX7_suspects_41 : decode cX7_suspects 41 = .ok (.iload_n 2, 1) := by decide +kernel
theorem dX7_suspects_42 : decode cX7_suspects 42 = .ok (.invokestatic 188, 3) := by decide +kernel
theorem dX7_suspects_45 : decode cX7_suspects 45 = .ok (.if_icmp .ne 18, 3) := by decide +kernel
theorem dX7_suspects_48 : decode cX7_suspects 48 = .ok (.aload_n 0, 1) := by decide +kernel
theorem dX7_suspects_49 : decode cX7_suspects 49 = .ok (.iload 4, 2) := by decide +kernel
theorem dX7_suspects_51 : decode cX7_suspects 51 = .ok (.iload_n 1, 1) := by decide +kernel
theorem dX7_suspects_52 : decode cX7_suspects 52 = .ok (.invokevirtual 193, 3) := by decide +kernel
theorem dX7_suspects_55 : decode cX7_suspects 55 = .ok (.ifCond .eq 8, 3) := by decide +kernel
theorem dX7_suspects_58 : decode cX7_suspects 58 = .ok (.iload_n 3, 1) := by decide +kernel
theorem dX7_suspects_59 : decode cX7_suspects 59 = .ok (.iload 4, 2) := by decide +kernel
theorem dX7_suspects_61 : decode cX7_suspects 61 = .ok (.ior, 1) := by decide +kernel
theorem dX7_suspects_62 : decode cX7_suspects 62 = .ok (.istore_n 3, 1) := by decide +kernel
theorem dX7_suspects_63 : decode cX7_suspects 63 = .ok (.iinc 4 1, 3) := by decide +kernel
theorem dX7_suspects_66 : decode cX7_suspects 66 = .ok (.goto (-37), 3) := by decide +kernel
theorem dX7_suspects_69 : decode cX7_suspects 69 = .ok (.iload_n 3, 1) := by decide +kernel
theorem dX7_suspects_70 : decode cX7_suspects 70 = .ok (.ireturn, 1) := by decide +kernel
theorem dX7_capacityFor_0 : decode cX7_capacityFor 0 = .ok (.iload_n 1, 1) := by decide +kernel
theorem dX7_capacityFor_1 : decode cX7_capacityFor 1 = .ok (.ifCond .ge 13, 3) := by decide +kernel
theorem dX7_capacityFor_4 : decode cX7_capacityFor 4 = .ok (.new 60, 3) := by decide +kernel
theorem dX7_capacityFor_7 : decode cX7_capacityFor 7 = .ok (.dup, 1) := by decide +kernel
theorem dX7_capacityFor_8 : decode cX7_capacityFor 8 = .ok (.ldc 196, 2) := by decide +kernel
theorem dX7_capacityFor_10 : decode cX7_capacityFor 10 = .ok (.invokespecial 64, 3) := by decide +kernel
theorem dX7_capacityFor_13 : decode cX7_capacityFor 13 = .ok (.athrow, 1) := by decide +kernel
theorem dX7_capacityFor_14 : decode cX7_capacityFor 14 = .ok (.iconst 1, 1) := by decide +kernel
theorem dX7_capacityFor_15 : decode cX7_capacityFor 15 = .ok (.istore_n 2, 1) := by decide +kernel
theorem dX7_capacityFor_16 : decode cX7_capacityFor 16 = .ok (.iload_n 2, 1) := by decide +kernel
theorem dX7_capacityFor_17 : decode cX7_capacityFor 17 = .ok (.sipush 1000, 3) := by decide +kernel
theorem dX7_capacityFor_20 : decode cX7_capacityFor 20 = .ok (.if_icmp .gt 55, 3) := by decide +kernel
theorem dX7_capacityFor_23 : decode cX7_capacityFor 23 = .ok (.aload_n 0, 1) := by decide +kernel
theorem dX7_capacityFor_24 : decode cX7_capacityFor 24 = .ok (.getfield 32, 3) := by decide +kernel
theorem dX7_capacityFor_27 : decode cX7_capacityFor 27 = .ok (.bipush 63, 2) := by decide +kernel
theorem dX7_capacityFor_29 : decode cX7_capacityFor 29 = .ok (.iload_n 2, 1) := by decide +kernel
theorem dX7_capacityFor_30 : decode cX7_capacityFor 30 = .ok (.aload_n 0, 1) := by decide +kernel
theorem dX7_capacityFor_31 : decode cX7_capacityFor 31 = .ok (.getfield 10, 3) := by decide +kernel
theorem dX7_capacityFor_34 : decode cX7_capacityFor 34 = .ok (.getfield 111, 3) := by decide +kernel
theorem dX7_capacityFor_37 : decode cX7_capacityFor 37 = .ok (.iconst 2, 1) := by decide +kernel
theorem dX7_capacityFor_38 : decode cX7_capacityFor 38 = .ok (.iaload, 1) := by decide +kernel
theorem dX7_capacityFor_39 : decode cX7_capacityFor 39 = .ok (.invokevirtual 114, 3) := by decide +kernel
theorem dX7_capacityFor_42 : decode cX7_capacityFor 42 = .ok (.aload_n 0, 1) := by decide +kernel
theorem dX7_capacityFor_43 : decode cX7_capacityFor 43 = .ok (.getfield 32, 3) := by decide +kernel
theorem dX7_capacityFor_46 : decode cX7_capacityFor 46 = .ok (.getfield 118, 3) := by decide +kernel
theorem dX7_capacityFor_49 : decode cX7_capacityFor 49 = .ok (.getfield 122, 3) := by decide +kernel
theorem dX7_capacityFor_52 : decode cX7_capacityFor 52 = .ok (.iload_n 1, 1) := by decide +kernel
theorem dX7_capacityFor_53 : decode cX7_capacityFor 53 = .ok (.if_icmp .gt 5, 3) := by decide +kernel
theorem dX7_capacityFor_56 : decode cX7_capacityFor 56 = .ok (.iload_n 2, 1) := by decide +kernel
theorem dX7_capacityFor_57 : decode cX7_capacityFor 57 = .ok (.ireturn, 1) := by decide +kernel
theorem dX7_capacityFor_58 : decode cX7_capacityFor 58 = .ok (.iload_n 2, 1) := by decide +kernel
theorem dX7_capacityFor_59 : decode cX7_capacityFor 59 = .ok (.iconst 1, 1) := by decide +kernel
theorem dX7_capacityFor_60 : decode cX7_capacityFor 60 = .ok (.iadd, 1) := by decide +kernel
theorem dX7_capacityFor_61 : decode cX7_capacityFor 61 = .ok (.aload_n 0, 1) := by decide +kernel
theorem dX7_capacityFor_62 : decode cX7_capacityFor 62 = .ok (.getfield 32, 3) := by decide +kernel
theorem dX7_capacityFor_65 : decode cX7_capacityFor 65 = .ok (.getfield 198, 3) := by decide +kernel
theorem dX7_capacityFor_68 : decode cX7_capacityFor 68 = .ok (.invokestatic 201, 3) := by decide +kernel
theorem dX7_capacityFor_71 : decode cX7_capacityFor 71 = .ok (.istore_n 2, 1) := by decide +kernel
theorem dX7_capacityFor_72 : decode cX7_capacityFor 72 = .ok (.goto (-56), 3) := by decide +kernel
theorem dX7_capacityFor_75 : decode cX7_capacityFor 75 = .ok (.iconst (-1), 1) := by decide +kernel
theorem dX7_capacityFor_76 : decode cX7_capacityFor 76 = .ok (.ireturn, 1) := by decide +kernel
theorem dX7_bestPolicy_0 : decode cX7_bestPolicy 0 = .ok (.iconst 0, 1) := by decide +kernel
theorem dX7_bestPolicy_1 : decode cX7_bestPolicy 1 = .ok (.istore_n 1, 1) := by decide +kernel
theorem dX7_bestPolicy_2 : decode cX7_bestPolicy 2 = .ok (.iconst 0, 1) := by decide +kernel
theorem dX7_bestPolicy_3 : decode cX7_bestPolicy 3 = .ok (.istore_n 2, 1) := by decide +kernel
theorem dX7_bestPolicy_4 : decode cX7_bestPolicy 4 = .ok (.iconst 0, 1) := by decide +kernel
theorem dX7_bestPolicy_5 : decode cX7_bestPolicy 5 = .ok (.istore_n 3, 1) := by decide +kernel
theorem dX7_bestPolicy_6 : decode cX7_bestPolicy 6 = .ok (.iload_n 3, 1) := by decide +kernel
theorem dX7_bestPolicy_7 : decode cX7_bestPolicy 7 = .ok (.iconst 5, 1) := by decide +kernel
theorem dX7_bestPolicy_8 : decode cX7_bestPolicy 8 = .ok (.if_icmp .ge 53, 3) := by decide +kernel
theorem dX7_bestPolicy_11 : decode cX7_bestPolicy 11 = .ok (.aload_n 0, 1) := by decide +kernel
theorem dX7_bestPolicy_12 : decode cX7_bestPolicy 12 = .ok (.getfield 32, 3) := by decide +kernel
theorem dX7_bestPolicy_15 : decode cX7_bestPolicy 15 = .ok (.bipush 63, 2) := by decide +kernel
theorem dX7_bestPolicy_17 : decode cX7_bestPolicy 17 = .ok (.aload_n 0, 1) := by decide +kernel
theorem dX7_bestPolicy_18 : decode cX7_bestPolicy 18 = .ok (.getfield 10, 3) := by decide +kernel
theorem dX7_bestPolicy_21 : decode cX7_bestPolicy 21 = .ok (.getfield 111, 3) := by decide +kernel
theorem dX7_bestPolicy_24 : decode cX7_bestPolicy 24 = .ok (.iconst 0, 1) := by decide +kernel
theorem dX7_bestPolicy_25 : decode cX7_bestPolicy 25 = .ok (.iaload, 1) := by decide +kernel
theorem dX7_bestPolicy_26 : decode cX7_bestPolicy 26 = .ok (.iload_n 3, 1) := by decide +kernel
theorem dX7_bestPolicy_27 : decode cX7_bestPolicy 27 = .ok (.invokevirtual 114, 3) := by decide +kernel
theorem dX7_bestPolicy_30 : decode cX7_bestPolicy 30 = .ok (.aload_n 0, 1) := by decide +kernel
theorem dX7_bestPolicy_31 : decode cX7_bestPolicy 31 = .ok (.getfield 32, 3) := by decide +kernel
theorem dX7_bestPolicy_34 : decode cX7_bestPolicy 34 = .ok (.iconst (-1), 1) := by decide +kernel
theorem dX7_bestPolicy_35 : decode cX7_bestPolicy 35 = .ok (.invokevirtual 206, 3) := by decide +kernel
theorem dX7_bestPolicy_38 : decode cX7_bestPolicy 38 = .ok (.istore 4, 2) := by decide +kernel
theorem dX7_bestPolicy_40 : decode cX7_bestPolicy 40 = .ok (.iload_n 3, 1) := by decide +kernel
theorem dX7_bestPolicy_41 : decode cX7_bestPolicy 41 = .ok (.ifCond .eq 9, 3) := by decide +kernel
theorem dX7_bestPolicy_44 : decode cX7_bestPolicy 44 = .ok (.iload 4, 2) := by decide +kernel
theorem dX7_bestPolicy_46 : decode cX7_bestPolicy 46 = .ok (.iload_n 2, 1) := by decide +kernel
theorem dX7_bestPolicy_47 : decode cX7_bestPolicy 47 = .ok (.if_icmp .ge 8, 3) := by decide +kernel
theorem dX7_bestPolicy_50 : decode cX7_bestPolicy 50 = .ok (.iload_n 3, 1) := by decide +kernel
theorem dX7_bestPolicy_51 : decode cX7_bestPolicy 51 = .ok (.istore_n 1, 1) := by decide +kernel
theorem dX7_bestPolicy_52 : decode cX7_bestPolicy 52 = .ok (.iload 4, 2) := by decide +kernel
theorem dX7_bestPolicy_54 : decode cX7_bestPolicy 54 = .ok (.istore_n 2, 1) := by decide +kernel
theorem dX7_bestPolicy_55 : decode cX7_bestPolicy 55 = .ok (.iinc 3 1, 3) := by decide +kernel
theorem dX7_bestPolicy_58 : decode cX7_bestPolicy 58 = .ok (.goto (-52), 3) := by decide +kernel
theorem dX7_bestPolicy_61 : decode cX7_bestPolicy 61 = .ok (.iload_n 1, 1) := by decide +kernel
theorem dX7_bestPolicy_62 : decode cX7_bestPolicy 62 = .ok (.ireturn, 1) := by decide +kernel
theorem dX7_type_0 : decode cX7_type 0 = .ok (.iload_n 1, 1) := by decide +kernel
theorem dX7_type_1 : decode cX7_type 1 = .ok (.bipush 32, 2) := by decide +kernel
theorem dX7_type_3 : decode cX7_type 3 = .ok (.if_icmp .lt 9, 3) := by decide +kernel
theorem dX7_type_6 : decode cX7_type 6 = .ok (.iload_n 1, 1) := by decide +kernel
theorem dX7_type_7 : decode cX7_type 7 = .ok (.bipush 126, 2) := by decide +kernel
theorem dX7_type_9 : decode cX7_type 9 = .ok (.if_icmp .le 13, 3) := by decide +kernel
theorem dX7_type_12 : decode cX7_type 12 = .ok (.new 60, 3) := by decide +kernel
theorem dX7_type_15 : decode cX7_type 15 = .ok (.dup, 1) := by decide +kernel
theorem dX7_type_16 : decode cX7_type 16 = .ok (.ldc 209, 2) := by decide +kernel
theorem dX7_type_18 : decode cX7_type 18 = .ok (.invokespecial 64, 3) := by decide +kernel
theorem dX7_type_21 : decode cX7_type 21 = .ok (.athrow, 1) := by decide +kernel
theorem dX7_type_22 : decode cX7_type 22 = .ok (.aload_n 0, 1) := by decide +kernel
theorem dX7_type_23 : decode cX7_type 23 = .ok (.getfield 38, 3) := by decide +kernel
theorem dX7_type_26 : decode cX7_type 26 = .ok (.invokevirtual 211, 3) := by decide +kernel
theorem dX7_type_29 : decode cX7_type 29 = .ok (.ifCond .eq 13, 3) := by decide +kernel
theorem dX7_type_32 : decode cX7_type 32 = .ok (.new 71, 3) := by decide +kernel
theorem dX7_type_35 : decode cX7_type 35 = .ok (.dup, 1) := by decide +kernel
theorem dX7_type_36 : decode cX7_type 36 = .ok (.ldc 212, 2) := by decide +kernel
theorem dX7_type_38 : decode cX7_type 38 = .ok (.invokespecial 75, 3) := by decide +kernel
theorem dX7_type_41 : decode cX7_type 41 = .ok (.athrow, 1) := by decide +kernel
theorem dX7_type_42 : decode cX7_type 42 = .ok (.aload_n 0, 1) := by decide +kernel
theorem dX7_type_43 : decode cX7_type 43 = .ok (.getfield 38, 3) := by decide +kernel
theorem dX7_type_46 : decode cX7_type 46 = .ok (.iload_n 1, 1) := by decide +kernel
theorem dX7_type_47 : decode cX7_type 47 = .ok (.invokevirtual 214, 3) := by decide +kernel
theorem dX7_type_50 : decode cX7_type 50 = .ok (.aload_n 0, 1) := by decide +kernel
theorem dX7_type_51 : decode cX7_type 51 = .ok (.getfield 38, 3) := by decide +kernel
theorem dX7_type_54 : decode cX7_type 54 = .ok (.getfield 217, 3) := by decide +kernel
theorem dX7_type_57 : decode cX7_type 57 = .ok (.ireturn, 1) := by decide +kernel
theorem dX7_clearText_0 : decode cX7_clearText 0 = .ok (.aload_n 0, 1) := by decide +kernel
theorem dX7_clearText_1 : decode cX7_clearText 1 = .ok (.getfield 38, 3) := by decide +kernel
theorem dX7_clearText_4 : decode cX7_clearText 4 = .ok (.getfield 217, 3) := by decide +kernel
theorem dX7_clearText_7 : decode cX7_clearText 7 = .ok (.istore_n 1, 1) := by decide +kernel
theorem dX7_clearText_8 : decode cX7_clearText 8 = .ok (.aload_n 0, 1) := by decide +kernel
theorem dX7_clearText_9 : decode cX7_clearText 9 = .ok (.getfield 38, 3) := by decide +kernel
theorem dX7_clearText_12 : decode cX7_clearText 12 = .ok (.iconst 0, 1) := by decide +kernel
theorem dX7_clearText_13 : decode cX7_clearText 13 = .ok (.putfield 217, 3) := by decide +kernel
theorem dX7_clearText_16 : decode cX7_clearText 16 = .ok (.iload_n 1, 1) := by decide +kernel
theorem dX7_clearText_17 : decode cX7_clearText 17 = .ok (.ireturn, 1) := by decide +kernel
theorem dX7_fault_0 : decode cX7_fault 0 = .ok (.aload_n 0, 1) := by decide +kernel
theorem dX7_fault_1 : decode cX7_fault 1 = .ok (.getfield 38, 3) := by decide +kernel
theorem dX7_fault_4 : decode cX7_fault 4 = .ok (.invokevirtual 220, 3) := by decide +kernel
theorem dX7_fault_7 : decode cX7_fault 7 = .ok (.ireturn, 1) := by decide +kernel
theorem dX7_run_0 : decode cX7_run 0 = .ok (.aload_n 0, 1) := by decide +kernel
theorem dX7_run_1 : decode cX7_run 1 = .ok (.getfield 38, 3) := by decide +kernel
theorem dX7_run_4 : decode cX7_run 4 = .ok (.invokevirtual 220, 3) := by decide +kernel
theorem dX7_run_7 : decode cX7_run 7 = .ok (.iconst (-1), 1) := by decide +kernel
theorem dX7_run_8 : decode cX7_run 8 = .ok (.if_icmp .eq 13, 3) := by decide +kernel
theorem dX7_run_11 : decode cX7_run 11 = .ok (.new 60, 3) := by decide +kernel
theorem dX7_run_14 : decode cX7_run 14 = .ok (.dup, 1) := by decide +kernel
theorem dX7_run_15 : decode cX7_run 15 = .ok (.ldc 223, 2) := by decide +kernel
theorem dX7_run_17 : decode cX7_run 17 = .ok (.invokespecial 64, 3) := by decide +kernel
theorem dX7_run_20 : decode cX7_run 20 = .ok (.athrow, 1) := by decide +kernel
theorem dX7_run_21 : decode cX7_run 21 = .ok (.aload_n 0, 1) := by decide +kernel
theorem dX7_run_22 : decode cX7_run 22 = .ok (.getfield 19, 3) := by decide +kernel
theorem dX7_run_25 : decode cX7_run 25 = .ok (.aload_n 0, 1) := by decide +kernel
theorem dX7_run_26 : decode cX7_run 26 = .ok (.getfield 10, 3) := by decide +kernel
theorem dX7_run_29 : decode cX7_run 29 = .ok (.invokevirtual 76, 3) := by decide +kernel
theorem dX7_run_32 : decode cX7_run 32 = .ok (.iconst 0, 1) := by decide +kernel
theorem dX7_run_33 : decode cX7_run 33 = .ok (.istore_n 1, 1) := by decide +kernel
theorem dX7_run_34 : decode cX7_run 34 = .ok (.iconst 0, 1) := by decide +kernel
theorem dX7_run_35 : decode cX7_run 35 = .ok (.istore_n 2, 1) := by decide +kernel
theorem dX7_run_36 : decode cX7_run 36 = .ok (.iload_n 2, 1) := by decide +kernel
theorem dX7_run_37 : decode cX7_run 37 = .ok (.aload_n 0, 1) := by decide +kernel
theorem dX7_run_38 : decode cX7_run 38 = .ok (.getfield 38, 3) := by decide +kernel
theorem dX7_run_41 : decode cX7_run 41 = .ok (.getfield 225, 3) := by decide +kernel
theorem dX7_run_44 : decode cX7_run 44 = .ok (.if_icmp .ge 31, 3) := by decide +kernel
theorem dX7_run_47 : decode cX7_run 47 = .ok (.aload_n 0, 1) := by decide +kernel
theorem dX7_run_48 : decode cX7_run 48 = .ok (.aload_n 0, 1) := by decide +kernel
theorem dX7_run_49 : decode cX7_run 49 = .ok (.getfield 38, 3) := by decide +kernel
theorem dX7_run_52 : decode cX7_run 52 = .ok (.getfield 228, 3) := by decide +kernel
theorem dX7_run_55 : decode cX7_run 55 = .ok (.iload_n 2, 1) := by decide +kernel
theorem dX7_run_56 : decode cX7_run 56 = .ok (.aaload, 1) := by decide +kernel
theorem dX7_run_57 : decode cX7_run 57 = .ok (.iload_n 2, 1) := by decide +kernel
theorem dX7_run_58 : decode cX7_run 58 = .ok (.iconst 3, 1) := by decide +kernel
theorem dX7_run_59 : decode cX7_run 59 = .ok (.imul, 1) := by decide +kernel
theorem dX7_run_60 : decode cX7_run 60 = .ok (.invokevirtual 232, 3) := by decide +kernel
theorem dX7_run_63 : decode cX7_run 63 = .ok (.ifCond .eq 6, 3) := by decide +kernel
theorem dX7_run_66 : decode cX7_run 66 = .ok (.iinc 1 1, 3) := by decide +kernel
theorem dX7_run_69 : decode cX7_run 69 = .ok (.iinc 2 1, 3) := by decide +kernel
theorem dX7_run_72 : decode cX7_run 72 = .ok (.goto (-36), 3) := by decide +kernel
theorem dX7_run_75 : decode cX7_run 75 = .ok (.iload_n 1, 1) := by decide +kernel
theorem dX7_run_76 : decode cX7_run 76 = .ok (.ireturn, 1) := by decide +kernel
theorem dX7_undo_0 : decode cX7_undo 0 = .ok (.aload_n 0, 1) := by decide +kernel
theorem dX7_undo_1 : decode cX7_undo 1 = .ok (.getfield 19, 3) := by decide +kernel
theorem dX7_undo_4 : decode cX7_undo 4 = .ok (.getfield 236, 3) := by decide +kernel
theorem dX7_undo_7 : decode cX7_undo 7 = .ok (.ifCond .ne 13, 3) := by decide +kernel
theorem dX7_undo_10 : decode cX7_undo 10 = .ok (.new 71, 3) := by decide +kernel
theorem dX7_undo_13 : decode cX7_undo 13 = .ok (.dup, 1) := by decide +kernel
theorem dX7_undo_14 : decode cX7_undo 14 = .ok (.ldc 237, 2) := by decide +kernel
theorem dX7_undo_16 : decode cX7_undo 16 = .ok (.invokespecial 75, 3) := by decide +kernel
theorem dX7_undo_19 : decode cX7_undo 19 = .ok (.athrow, 1) := by decide +kernel
theorem dX7_undo_20 : decode cX7_undo 20 = .ok (.aload_n 0, 1) := by decide +kernel
theorem dX7_undo_21 : decode cX7_undo 21 = .ok (.getfield 19, 3) := by decide +kernel
theorem dX7_undo_24 : decode cX7_undo 24 = .ok (.aload_n 0, 1) := by decide +kernel
theorem dX7_undo_25 : decode cX7_undo 25 = .ok (.getfield 10, 3) := by decide +kernel
theorem dX7_undo_28 : decode cX7_undo 28 = .ok (.invokevirtual 239, 3) := by decide +kernel
theorem dX7_undo_31 : decode cX7_undo 31 = .ok (.aload_n 0, 1) := by decide +kernel
theorem dX7_undo_32 : decode cX7_undo 32 = .ok (.getfield 19, 3) := by decide +kernel
theorem dX7_undo_35 : decode cX7_undo 35 = .ok (.getfield 236, 3) := by decide +kernel
theorem dX7_undo_38 : decode cX7_undo 38 = .ok (.ireturn, 1) := by decide +kernel
theorem dX7_checksum_0 : decode cX7_checksum 0 = .ok (.aload_n 0, 1) := by decide +kernel
theorem dX7_checksum_1 : decode cX7_checksum 1 = .ok (.iconst (-1), 1) := by decide +kernel
theorem dX7_checksum_2 : decode cX7_checksum 2 = .ok (.invokevirtual 153, 3) := by decide +kernel
theorem dX7_checksum_5 : decode cX7_checksum 5 = .ok (.ldc2_w 242, 3) := by decide +kernel
theorem dX7_checksum_8 : decode cX7_checksum 8 = .ok (.aload_n 0, 1) := by decide +kernel
theorem dX7_checksum_9 : decode cX7_checksum 9 = .ok (.getfield 10, 3) := by decide +kernel
theorem dX7_checksum_12 : decode cX7_checksum 12 = .ok (.getfield 89, 3) := by decide +kernel
theorem dX7_checksum_15 : decode cX7_checksum 15 = .ok (.i2l, 1) := by decide +kernel
theorem dX7_checksum_16 : decode cX7_checksum 16 = .ok (.ladd, 1) := by decide +kernel
theorem dX7_checksum_17 : decode cX7_checksum 17 = .ok (.lstore_n 1, 1) := by decide +kernel
theorem dX7_checksum_18 : decode cX7_checksum 18 = .ok (.iconst 0, 1) := by decide +kernel
theorem dX7_checksum_19 : decode cX7_checksum 19 = .ok (.istore_n 3, 1) := by decide +kernel
theorem dX7_checksum_20 : decode cX7_checksum 20 = .ok (.iload_n 3, 1) := by decide +kernel
theorem dX7_checksum_21 : decode cX7_checksum 21 = .ok (.aload_n 0, 1) := by decide +kernel
theorem dX7_checksum_22 : decode cX7_checksum 22 = .ok (.getfield 10, 3) := by decide +kernel
theorem dX7_checksum_25 : decode cX7_checksum 25 = .ok (.getfield 89, 3) := by decide +kernel
theorem dX7_checksum_28 : decode cX7_checksum 28 = .ok (.if_icmp .ge 60, 3) := by decide +kernel
theorem dX7_checksum_31 : decode cX7_checksum 31 = .ok (.ldc2_w 244, 3) := by decide +kernel
theorem dX7_checksum_34 : decode cX7_checksum 34 = .ok (.lload_n 1, 1) := by decide +kernel
theorem dX7_checksum_35 : decode cX7_checksum 35 = .ok (.lmul, 1) := by decide +kernel
theorem dX7_checksum_36 : decode cX7_checksum 36 = .ok (.aload_n 0, 1) := by decide +kernel
theorem dX7_checksum_37 : decode cX7_checksum 37 = .ok (.getfield 10, 3) := by decide +kernel
theorem dX7_checksum_40 : decode cX7_checksum 40 = .ok (.getfield 93, 3) := by decide +kernel
theorem dX7_checksum_43 : decode cX7_checksum 43 = .ok (.iload_n 3, 1) := by decide +kernel
theorem dX7_checksum_44 : decode cX7_checksum 44 = .ok (.iaload, 1) := by decide +kernel
theorem dX7_checksum_45 : decode cX7_checksum 45 = .ok (.i2l, 1) := by decide +kernel
theorem dX7_checksum_46 : decode cX7_checksum 46 = .ok (.ladd, 1) := by decide +kernel
theorem dX7_checksum_47 : decode cX7_checksum 47 = .ok (.lstore_n 1, 1) := by decide +kernel
theorem dX7_checksum_48 : decode cX7_checksum 48 = .ok (.ldc2_w 244, 3) := by decide +kernel
theorem dX7_checksum_51 : decode cX7_checksum 51 = .ok (.lload_n 1, 1) := by decide +kernel
theorem dX7_checksum_52 : decode cX7_checksum 52 = .ok (.lmul, 1) := by decide +kernel
theorem dX7_checksum_53 : decode cX7_checksum 53 = .ok (.aload_n 0, 1) := by decide +kernel
theorem dX7_checksum_54 : decode cX7_checksum 54 = .ok (.getfield 10, 3) := by decide +kernel
theorem dX7_checksum_57 : decode cX7_checksum 57 = .ok (.getfield 96, 3) := by decide +kernel
theorem dX7_checksum_60 : decode cX7_checksum 60 = .ok (.iload_n 3, 1) := by decide +kernel
theorem dX7_checksum_61 : decode cX7_checksum 61 = .ok (.iaload, 1) := by decide +kernel
theorem dX7_checksum_62 : decode cX7_checksum 62 = .ok (.i2l, 1) := by decide +kernel
theorem dX7_checksum_63 : decode cX7_checksum 63 = .ok (.ladd, 1) := by decide +kernel
theorem dX7_checksum_64 : decode cX7_checksum 64 = .ok (.lstore_n 1, 1) := by decide +kernel
theorem dX7_checksum_65 : decode cX7_checksum 65 = .ok (.ldc2_w 244, 3) := by decide +kernel
theorem dX7_checksum_68 : decode cX7_checksum 68 = .ok (.lload_n 1, 1) := by decide +kernel
theorem dX7_checksum_69 : decode cX7_checksum 69 = .ok (.lmul, 1) := by decide +kernel
theorem dX7_checksum_70 : decode cX7_checksum 70 = .ok (.aload_n 0, 1) := by decide +kernel
theorem dX7_checksum_71 : decode cX7_checksum 71 = .ok (.getfield 10, 3) := by decide +kernel
theorem dX7_checksum_74 : decode cX7_checksum 74 = .ok (.getfield 99, 3) := by decide +kernel
theorem dX7_checksum_77 : decode cX7_checksum 77 = .ok (.iload_n 3, 1) := by decide +kernel
theorem dX7_checksum_78 : decode cX7_checksum 78 = .ok (.iaload, 1) := by decide +kernel
theorem dX7_checksum_79 : decode cX7_checksum 79 = .ok (.i2l, 1) := by decide +kernel
theorem dX7_checksum_80 : decode cX7_checksum 80 = .ok (.ladd, 1) := by decide +kernel
theorem dX7_checksum_81 : decode cX7_checksum 81 = .ok (.lstore_n 1, 1) := by decide +kernel
theorem dX7_checksum_82 : decode cX7_checksum 82 = .ok (.iinc 3 1, 3) := by decide +kernel
theorem dX7_checksum_85 : decode cX7_checksum 85 = .ok (.goto (-65), 3) := by decide +kernel
theorem dX7_checksum_88 : decode cX7_checksum 88 = .ok (.iconst 0, 1) := by decide +kernel
theorem dX7_checksum_89 : decode cX7_checksum 89 = .ok (.istore_n 3, 1) := by decide +kernel
theorem dX7_checksum_90 : decode cX7_checksum 90 = .ok (.iload_n 3, 1) := by decide +kernel
theorem dX7_checksum_91 : decode cX7_checksum 91 = .ok (.bipush 14, 2) := by decide +kernel
theorem dX7_checksum_93 : decode cX7_checksum 93 = .ok (.if_icmp .ge 26, 3) := by decide +kernel
theorem dX7_checksum_96 : decode cX7_checksum 96 = .ok (.ldc2_w 244, 3) := by decide +kernel
theorem dX7_checksum_99 : decode cX7_checksum 99 = .ok (.lload_n 1, 1) := by decide +kernel
theorem dX7_checksum_100 : decode cX7_checksum 100 = .ok (.lmul, 1) := by decide +kernel
theorem dX7_checksum_101 : decode cX7_checksum 101 = .ok (.aload_n 0, 1) := by decide +kernel
theorem dX7_checksum_102 : decode cX7_checksum 102 = .ok (.getfield 10, 3) := by decide +kernel
theorem dX7_checksum_105 : decode cX7_checksum 105 = .ok (.getfield 111, 3) := by decide +kernel
theorem dX7_checksum_108 : decode cX7_checksum 108 = .ok (.iload_n 3, 1) := by decide +kernel
theorem dX7_checksum_109 : decode cX7_checksum 109 = .ok (.iaload, 1) := by decide +kernel
theorem dX7_checksum_110 : decode cX7_checksum 110 = .ok (.i2l, 1) := by decide +kernel
theorem dX7_checksum_111 : decode cX7_checksum 111 = .ok (.ladd, 1) := by decide +kernel
theorem dX7_checksum_112 : decode cX7_checksum 112 = .ok (.lstore_n 1, 1) := by decide +kernel
theorem dX7_checksum_113 : decode cX7_checksum 113 = .ok (.iinc 3 1, 3) := by decide +kernel
theorem dX7_checksum_116 : decode cX7_checksum 116 = .ok (.goto (-26), 3) := by decide +kernel
theorem dX7_checksum_119 : decode cX7_checksum 119 = .ok (.iconst 0, 1) := by decide +kernel
theorem dX7_checksum_120 : decode cX7_checksum 120 = .ok (.istore_n 3, 1) := by decide +kernel
theorem dX7_checksum_121 : decode cX7_checksum 121 = .ok (.iload_n 3, 1) := by decide +kernel
theorem dX7_checksum_122 : decode cX7_checksum 122 = .ok (.bipush 64, 2) := by decide +kernel
theorem dX7_checksum_124 : decode cX7_checksum 124 = .ok (.if_icmp .ge 23, 3) := by decide +kernel
theorem dX7_checksum_127 : decode cX7_checksum 127 = .ok (.ldc2_w 244, 3) := by decide +kernel
theorem dX7_checksum_130 : decode cX7_checksum 130 = .ok (.lload_n 1, 1) := by decide +kernel
theorem dX7_checksum_131 : decode cX7_checksum 131 = .ok (.lmul, 1) := by decide +kernel
theorem dX7_checksum_132 : decode cX7_checksum 132 = .ok (.aload_n 0, 1) := by decide +kernel
theorem dX7_checksum_133 : decode cX7_checksum 133 = .ok (.getfield 42, 3) := by decide +kernel
theorem dX7_checksum_136 : decode cX7_checksum 136 = .ok (.iload_n 3, 1) := by decide +kernel
theorem dX7_checksum_137 : decode cX7_checksum 137 = .ok (.iaload, 1) := by decide +kernel
theorem dX7_checksum_138 : decode cX7_checksum 138 = .ok (.i2l, 1) := by decide +kernel
theorem dX7_checksum_139 : decode cX7_checksum 139 = .ok (.ladd, 1) := by decide +kernel
theorem dX7_checksum_140 : decode cX7_checksum 140 = .ok (.lstore_n 1, 1) := by decide +kernel
theorem dX7_checksum_141 : decode cX7_checksum 141 = .ok (.iinc 3 1, 3) := by decide +kernel
theorem dX7_checksum_144 : decode cX7_checksum 144 = .ok (.goto (-23), 3) := by decide +kernel
theorem dX7_checksum_147 : decode cX7_checksum 147 = .ok (.ldc2_w 244, 3) := by decide +kernel
theorem dX7_checksum_150 : decode cX7_checksum 150 = .ok (.lload_n 1, 1) := by decide +kernel
theorem dX7_checksum_151 : decode cX7_checksum 151 = .ok (.lmul, 1) := by decide +kernel
theorem dX7_checksum_152 : decode cX7_checksum 152 = .ok (.aload_n 0, 1) := by decide +kernel
theorem dX7_checksum_153 : decode cX7_checksum 153 = .ok (.getfield 38, 3) := by decide +kernel
theorem dX7_checksum_156 : decode cX7_checksum 156 = .ok (.getfield 217, 3) := by decide +kernel
theorem dX7_checksum_159 : decode cX7_checksum 159 = .ok (.i2l, 1) := by decide +kernel
theorem dX7_checksum_160 : decode cX7_checksum 160 = .ok (.ladd, 1) := by decide +kernel
theorem dX7_checksum_161 : decode cX7_checksum 161 = .ok (.lstore_n 1, 1) := by decide +kernel
theorem dX7_checksum_162 : decode cX7_checksum 162 = .ok (.ldc2_w 244, 3) := by decide +kernel
theorem dX7_checksum_165 : decode cX7_checksum 165 = .ok (.lload_n 1, 1) := by decide +kernel
theorem dX7_checksum_166 : decode cX7_checksum 166 = .ok (.lmul, 1) := by decide +kernel
theorem dX7_checksum_167 : decode cX7_checksum 167 = .ok (.aload_n 0, 1) := by decide +kernel
theorem dX7_checksum_168 : decode cX7_checksum 168 = .ok (.getfield 19, 3) := by decide +kernel
theorem dX7_checksum_171 : decode cX7_checksum 171 = .ok (.getfield 236, 3) := by decide +kernel
theorem dX7_checksum_174 : decode cX7_checksum 174 = .ok (.i2l, 1) := by decide +kernel
theorem dX7_checksum_175 : decode cX7_checksum 175 = .ok (.ladd, 1) := by decide +kernel
theorem dX7_checksum_176 : decode cX7_checksum 176 = .ok (.lreturn, 1) := by decide +kernel
theorem dX7_requireFlow_0 : decode cX7_requireFlow 0 = .ok (.iload_n 0, 1) := by decide +kernel
theorem dX7_requireFlow_1 : decode cX7_requireFlow 1 = .ok (.invokestatic 246, 3) := by decide +kernel
theorem dX7_requireFlow_4 : decode cX7_requireFlow 4 = .ok (.ifCond .ne 13, 3) := by decide +kernel
theorem dX7_requireFlow_7 : decode cX7_requireFlow 7 = .ok (.new 250, 3) := by decide +kernel
theorem dX7_requireFlow_10 : decode cX7_requireFlow 10 = .ok (.dup, 1) := by decide +kernel
theorem dX7_requireFlow_11 : decode cX7_requireFlow 11 = .ok (.ldc 252, 2) := by decide +kernel
theorem dX7_requireFlow_13 : decode cX7_requireFlow 13 = .ok (.invokespecial 254, 3) := by decide +kernel
theorem dX7_requireFlow_16 : decode cX7_requireFlow 16 = .ok (.athrow, 1) := by decide +kernel
theorem dX7_requireFlow_17 : decode cX7_requireFlow 17 = .ok (.return_, 1) := by decide +kernel
theorem dX7_requireSet_0 : decode cX7_requireSet 0 = .ok (.iload_n 0, 1) := by decide +kernel
theorem dX7_requireSet_1 : decode cX7_requireSet 1 = .ok (.ifCond .lt 9, 3) := by decide +kernel
theorem dX7_requireSet_4 : decode cX7_requireSet 4 = .ok (.iload_n 0, 1) := by decide +kernel
theorem dX7_requireSet_5 : decode cX7_requireSet 5 = .ok (.bipush 63, 2) := by decide +kernel
theorem dX7_requireSet_7 : decode cX7_requireSet 7 = .ok (.if_icmp .le 13, 3) := by decide +kernel
theorem dX7_requireSet_10 : decode cX7_requireSet 10 = .ok (.new 60, 3) := by decide +kernel
theorem dX7_requireSet_13 : decode cX7_requireSet 13 = .ok (.dup, 1) := by decide +kernel
theorem dX7_requireSet_14 : decode cX7_requireSet 14 = .ok (.ldc 255, 2) := by decide +kernel
theorem dX7_requireSet_16 : decode cX7_requireSet 16 = .ok (.invokespecial 64, 3) := by decide +kernel
theorem dX7_requireSet_19 : decode cX7_requireSet 19 = .ok (.athrow, 1) := by decide +kernel
theorem dX7_requireSet_20 : decode cX7_requireSet 20 = .ok (.return_, 1) := by decide +kernel
theorem dX7_requirePart_0 : decode cX7_requirePart 0 = .ok (.iload_n 0, 1) := by decide +kernel
theorem dX7_requirePart_1 : decode cX7_requirePart 1 = .ok (.ifCond .eq 19, 3) := by decide +kernel
theorem dX7_requirePart_4 : decode cX7_requirePart 4 = .ok (.iload_n 0, 1) := by decide +kernel
theorem dX7_requirePart_5 : decode cX7_requirePart 5 = .ok (.iconst 1, 1) := by decide +kernel
theorem dX7_requirePart_6 : decode cX7_requirePart 6 = .ok (.if_icmp .eq 14, 3) := by decide +kernel
theorem dX7_requirePart_9 : decode cX7_requirePart 9 = .ok (.new 60, 3) := by decide +kernel
theorem dX7_requirePart_12 : decode cX7_requirePart 12 = .ok (.dup, 1) := by decide +kernel
theorem dX7_requirePart_13 : decode cX7_requirePart 13 = .ok (.ldc_w 257, 3) := by decide +kernel
theorem dX7_requirePart_16 : decode cX7_requirePart 16 = .ok (.invokespecial 64, 3) := by decide +kernel
theorem dX7_requirePart_19 : decode cX7_requirePart 19 = .ok (.athrow, 1) := by decide +kernel
theorem dX7_requirePart_20 : decode cX7_requirePart 20 = .ok (.return_, 1) := by decide +kernel
theorem dX7_requirePacket_0 : decode cX7_requirePacket 0 = .ok (.iload_n 1, 1) := by decide +kernel
theorem dX7_requirePacket_1 : decode cX7_requirePacket 1 = .ok (.ifCond .lt 14, 3) := by decide +kernel
theorem dX7_requirePacket_4 : decode cX7_requirePacket 4 = .ok (.iload_n 1, 1) := by decide +kernel
theorem dX7_requirePacket_5 : decode cX7_requirePacket 5 = .ok (.aload_n 0, 1) := by decide +kernel
theorem dX7_requirePacket_6 : decode cX7_requirePacket 6 = .ok (.getfield 10, 3) := by decide +kernel
theorem dX7_requirePacket_9 : decode cX7_requirePacket 9 = .ok (.getfield 89, 3) := by decide +kernel
theorem dX7_requirePacket_12 : decode cX7_requirePacket 12 = .ok (.if_icmp .lt 14, 3) := by decide +kernel
theorem dX7_requirePacket_15 : decode cX7_requirePacket 15 = .ok (.new 250, 3) := by decide +kernel
theorem dX7_requirePacket_18 : decode cX7_requirePacket 18 = .ok (.dup, 1) := by decide +kernel
theorem dX7_requirePacket_19 : decode cX7_requirePacket 19 = .ok (.ldc_w 259, 3) := by decide +kernel
theorem dX7_requirePacket_22 : decode cX7_requirePacket 22 = .ok (.invokespecial 254, 3) := by decide +kernel
theorem dX7_requirePacket_25 : decode cX7_requirePacket 25 = .ok (.athrow, 1) := by decide +kernel
theorem dX7_requirePacket_26 : decode cX7_requirePacket 26 = .ok (.return_, 1) := by decide +kernel
theorem dX7_isFlow_0 : decode cX7_isFlow 0 = .ok (.iload_n 0, 1) := by decide +kernel
theorem dX7_isFlow_1 : decode cX7_isFlow 1 = .ok (.ifCond .lt 13, 3) := by decide +kernel
theorem dX7_isFlow_4 : decode cX7_isFlow 4 = .ok (.iload_n 0, 1) := by decide +kernel
theorem dX7_isFlow_5 : decode cX7_isFlow 5 = .ok (.bipush 6, 2) := by decide +kernel
theorem dX7_isFlow_7 : decode cX7_isFlow 7 = .ok (.if_icmp .ge 7, 3) := by decide +kernel
theorem dX7_isFlow_10 : decode cX7_isFlow 10 = .ok (.iconst 1, 1) := by decide +kernel
theorem dX7_isFlow_11 : decode cX7_isFlow 11 = .ok (.goto 4, 3) := by decide +kernel
theorem dX7_isFlow_14 : decode cX7_isFlow 14 = .ok (.iconst 0, 1) := by decide +kernel
theorem dX7_isFlow_15 : decode cX7_isFlow 15 = .ok (.ireturn, 1) := by decide +kernel
theorem dX7_isPacket_0 : decode cX7_isPacket 0 = .ok (.iload_n 0, 1) := by decide +kernel
theorem dX7_isPacket_1 : decode cX7_isPacket 1 = .ok (.ifCond .lt 32, 3) := by decide +kernel
theorem dX7_isPacket_4 : decode cX7_isPacket 4 = .ok (.iload_n 0, 1) := by decide +kernel
theorem dX7_isPacket_5 : decode cX7_isPacket 5 = .ok (.sipush 500, 3) := by decide +kernel
theorem dX7_isPacket_8 : decode cX7_isPacket 8 = .ok (.if_icmp .gt 25, 3) := by decide +kernel
theorem dX7_isPacket_11 : decode cX7_isPacket 11 = .ok (.iload_n 1, 1) := by decide +kernel
theorem dX7_isPacket_12 : decode cX7_isPacket 12 = .ok (.invokestatic 246, 3) := by decide +kernel
theorem dX7_isPacket_15 : decode cX7_isPacket 15 = .ok (.ifCond .eq 18, 3) := by decide +kernel
theorem dX7_isPacket_18 : decode cX7_isPacket 18 = .ok (.iload_n 2, 1) := by decide +kernel
theorem dX7_isPacket_19 : decode cX7_isPacket 19 = .ok (.iconst 1, 1) := by decide +kernel
theorem dX7_isPacket_20 : decode cX7_isPacket 20 = .ok (.if_icmp .lt 13, 3) := by decide +kernel
theorem dX7_isPacket_23 : decode cX7_isPacket 23 = .ok (.iload_n 2, 1) := by decide +kernel
theorem dX7_isPacket_24 : decode cX7_isPacket 24 = .ok (.bipush 100, 2) := by decide +kernel
theorem dX7_isPacket_26 : decode cX7_isPacket 26 = .ok (.if_icmp .gt 7, 3) := by decide +kernel
theorem dX7_isPacket_29 : decode cX7_isPacket 29 = .ok (.iconst 1, 1) := by decide +kernel
theorem dX7_isPacket_30 : decode cX7_isPacket 30 = .ok (.goto 4, 3) := by decide +kernel
theorem dX7_isPacket_33 : decode cX7_isPacket 33 = .ok (.iconst 0, 1) := by decide +kernel
theorem dX7_isPacket_34 : decode cX7_isPacket 34 = .ok (.ireturn, 1) := by decide +kernel
theorem dX7_isAllowed_0 : decode cX7_isAllowed 0 = .ok (.iload_n 0, 1) := by decide +kernel
theorem dX7_isAllowed_1 : decode cX7_isAllowed 1 = .ok (.ifCond .lt 31, 3) := by decide +kernel
theorem dX7_isAllowed_4 : decode cX7_isAllowed 4 = .ok (.iload_n 0, 1) := by decide +kernel
theorem dX7_isAllowed_5 : decode cX7_isAllowed 5 = .ok (.bipush 14, 2) := by decide +kernel
theorem dX7_isAllowed_7 : decode cX7_isAllowed 7 = .ok (.if_icmp .ge 25, 3) := by decide +kernel
theorem dX7_isAllowed_10 : decode cX7_isAllowed 10 = .ok (.iload_n 1, 1) := by decide +kernel
theorem dX7_isAllowed_11 : decode cX7_isAllowed 11 = .ok (.getstatic 261, 3) := by decide +kernel
theorem dX7_isAllowed_14 : decode cX7_isAllowed 14 = .ok (.iload_n 0, 1) := by decide +kernel
theorem dX7_isAllowed_15 : decode cX7_isAllowed 15 = .ok (.iaload, 1) := by decide +kernel
theorem dX7_isAllowed_16 : decode cX7_isAllowed 16 = .ok (.if_icmp .lt 16, 3) := by decide +kernel
theorem dX7_isAllowed_19 : decode cX7_isAllowed 19 = .ok (.iload_n 1, 1) := by decide +kernel
theorem dX7_isAllowed_20 : decode cX7_isAllowed 20 = .ok (.getstatic 264, 3) := by decide +kernel
theorem dX7_isAllowed_23 : decode cX7_isAllowed 23 = .ok (.iload_n 0, 1) := by decide +kernel
theorem dX7_isAllowed_24 : decode cX7_isAllowed 24 = .ok (.iaload, 1) := by decide +kernel
theorem dX7_isAllowed_25 : decode cX7_isAllowed 25 = .ok (.if_icmp .gt 7, 3) := by decide +kernel
theorem dX7_isAllowed_28 : decode cX7_isAllowed 28 = .ok (.iconst 1, 1) := by decide +kernel
theorem dX7_isAllowed_29 : decode cX7_isAllowed 29 = .ok (.goto 4, 3) := by decide +kernel
theorem dX7_isAllowed_32 : decode cX7_isAllowed 32 = .ok (.iconst 0, 1) := by decide +kernel
theorem dX7_isAllowed_33 : decode cX7_isAllowed 33 = .ok (.ireturn, 1) := by decide +kernel
theorem dX7_contains_0 : decode cX7_contains 0 = .ok (.iload_n 0, 1) := by decide +kernel
theorem dX7_contains_1 : decode cX7_contains 1 = .ok (.iload_n 1, 1) := by decide +kernel
theorem dX7_contains_2 : decode cX7_contains 2 = .ok (.ishr, 1) := by decide +kernel
theorem dX7_contains_3 : decode cX7_contains 3 = .ok (.iconst 1, 1) := by decide +kernel
theorem dX7_contains_4 : decode cX7_contains 4 = .ok (.iand, 1) := by decide +kernel
theorem dX7_contains_5 : decode cX7_contains 5 = .ok (.iconst 1, 1) := by decide +kernel
theorem dX7_contains_6 : decode cX7_contains 6 = .ok (.if_icmp .ne 7, 3) := by decide +kernel
theorem dX7_contains_9 : decode cX7_contains 9 = .ok (.iconst 1, 1) := by decide +kernel
theorem dX7_contains_10 : decode cX7_contains 10 = .ok (.goto 4, 3) := by decide +kernel
theorem dX7_contains_13 : decode cX7_contains 13 = .ok (.iconst 0, 1) := by decide +kernel
theorem dX7_contains_14 : decode cX7_contains 14 = .ok (.ireturn, 1) := by decide +kernel
theorem dX7_quotient_0 : decode cX7_quotient 0 = .ok (.iload_n 1, 1) := by decide +kernel
theorem dX7_quotient_1 : decode cX7_quotient 1 = .ok (.ifCond .le 9, 3) := by decide +kernel
theorem dX7_quotient_4 : decode cX7_quotient 4 = .ok (.iload_n 0, 1) := by decide +kernel
theorem dX7_quotient_5 : decode cX7_quotient 5 = .ok (.iload_n 1, 1) := by decide +kernel
theorem dX7_quotient_6 : decode cX7_quotient 6 = .ok (.idiv, 1) := by decide +kernel
theorem dX7_quotient_7 : decode cX7_quotient 7 = .ok (.goto 4, 3) := by decide +kernel
theorem dX7_quotient_10 : decode cX7_quotient 10 = .ok (.iconst 0, 1) := by decide +kernel
theorem dX7_quotient_11 : decode cX7_quotient 11 = .ok (.ireturn, 1) := by decide +kernel
theorem dX7_change_0 : decode cX7_change 0 = .ok (.iload_n 1, 1) := by decide +kernel
theorem dX7_change_1 : decode cX7_change 1 = .ok (.iload_n 2, 1) := by decide +kernel
theorem dX7_change_2 : decode cX7_change 2 = .ok (.invokestatic 267, 3) := by decide +kernel
theorem dX7_change_5 : decode cX7_change 5 = .ok (.ifCond .ne 14, 3) := by decide +kernel
theorem dX7_change_8 : decode cX7_change 8 = .ok (.new 60, 3) := by decide +kernel
theorem dX7_change_11 : decode cX7_change 11 = .ok (.dup, 1) := by decide +kernel
theorem dX7_change_12 : decode cX7_change 12 = .ok (.ldc_w 270, 3) := by decide +kernel
theorem dX7_change_15 : decode cX7_change 15 = .ok (.invokespecial 64, 3) := by decide +kernel
theorem dX7_change_18 : decode cX7_change 18 = .ok (.athrow, 1) := by decide +kernel
theorem dX7_change_19 : decode cX7_change 19 = .ok (.aload_n 0, 1) := by decide +kernel
theorem dX7_change_20 : decode cX7_change 20 = .ok (.getfield 19, 3) := by decide +kernel
theorem dX7_change_23 : decode cX7_change 23 = .ok (.aload_n 0, 1) := by decide +kernel
theorem dX7_change_24 : decode cX7_change 24 = .ok (.getfield 10, 3) := by decide +kernel
theorem dX7_change_27 : decode cX7_change 27 = .ok (.invokevirtual 76, 3) := by decide +kernel
theorem dX7_change_30 : decode cX7_change 30 = .ok (.aload_n 0, 1) := by decide +kernel
theorem dX7_change_31 : decode cX7_change 31 = .ok (.getfield 10, 3) := by decide +kernel
theorem dX7_change_34 : decode cX7_change 34 = .ok (.getfield 111, 3) := by decide +kernel
theorem dX7_change_37 : decode cX7_change 37 = .ok (.iload_n 1, 1) := by decide +kernel
theorem dX7_change_38 : decode cX7_change 38 = .ok (.iaload, 1) := by decide +kernel
theorem dX7_change_39 : decode cX7_change 39 = .ok (.istore_n 3, 1) := by decide +kernel
theorem dX7_change_40 : decode cX7_change 40 = .ok (.aload_n 0, 1) := by decide +kernel
theorem dX7_change_41 : decode cX7_change 41 = .ok (.getfield 10, 3) := by decide +kernel
theorem dX7_change_44 : decode cX7_change 44 = .ok (.getfield 111, 3) := by decide +kernel
theorem dX7_change_47 : decode cX7_change 47 = .ok (.iload_n 1, 1) := by decide +kernel
theorem dX7_change_48 : decode cX7_change 48 = .ok (.iload_n 2, 1) := by decide +kernel
theorem dX7_change_49 : decode cX7_change 49 = .ok (.iastore, 1) := by decide +kernel
theorem dX7_change_50 : decode cX7_change 50 = .ok (.iload_n 3, 1) := by decide +kernel
theorem dX7_change_51 : decode cX7_change 51 = .ok (.ireturn, 1) := by decide +kernel
theorem dX7_worthOf_0 : decode cX7_worthOf 0 = .ok (.aload_n 0, 1) := by decide +kernel
theorem dX7_worthOf_1 : decode cX7_worthOf 1 = .ok (.getfield 32, 3) := by decide +kernel
theorem dX7_worthOf_4 : decode cX7_worthOf 4 = .ok (.iload_n 1, 1) := by decide +kernel
theorem dX7_worthOf_5 : decode cX7_worthOf 5 = .ok (.aload_n 0, 1) := by decide +kernel
theorem dX7_worthOf_6 : decode cX7_worthOf 6 = .ok (.getfield 10, 3) := by decide +kernel
theorem dX7_worthOf_9 : decode cX7_worthOf 9 = .ok (.getfield 111, 3) := by decide +kernel
theorem dX7_worthOf_12 : decode cX7_worthOf 12 = .ok (.iconst 0, 1) := by decide +kernel
theorem dX7_worthOf_13 : decode cX7_worthOf 13 = .ok (.iaload, 1) := by decide +kernel
theorem dX7_worthOf_14 : decode cX7_worthOf 14 = .ok (.aload_n 0, 1) := by decide +kernel
theorem dX7_worthOf_15 : decode cX7_worthOf 15 = .ok (.getfield 10, 3) := by decide +kernel
theorem dX7_worthOf_18 : decode cX7_worthOf 18 = .ok (.getfield 111, 3) := by decide +kernel
theorem dX7_worthOf_21 : decode cX7_worthOf 21 = .ok (.iconst 2, 1) := by decide +kernel
theorem dX7_worthOf_22 : decode cX7_worthOf 22 = .ok (.iaload, 1) := by decide +kernel
theorem dX7_worthOf_23 : decode cX7_worthOf 23 = .ok (.invokevirtual 114, 3) := by decide +kernel
theorem dX7_worthOf_26 : decode cX7_worthOf 26 = .ok (.aload_n 0, 1) := by decide +kernel
theorem dX7_worthOf_27 : decode cX7_worthOf 27 = .ok (.getfield 32, 3) := by decide +kernel
theorem dX7_worthOf_30 : decode cX7_worthOf 30 = .ok (.iload_n 2, 1) := by decide +kernel
theorem dX7_worthOf_31 : decode cX7_worthOf 31 = .ok (.invokevirtual 206, 3) := by decide +kernel
theorem dX7_worthOf_34 : decode cX7_worthOf 34 = .ok (.ireturn, 1) := by decide +kernel
theorem dX7_fillWorths_0 : decode cX7_fillWorths 0 = .ok (.aload_n 0, 1) := by decide +kernel
theorem dX7_fillWorths_1 : decode cX7_fillWorths 1 = .ok (.getfield 10, 3) := by decide +kernel
theorem dX7_fillWorths_4 : decode cX7_fillWorths 4 = .ok (.invokevirtual 272, 3) := by decide +kernel
theorem dX7_fillWorths_7 : decode cX7_fillWorths 7 = .ok (.istore_n 2, 1) := by decide +kernel
theorem dX7_fillWorths_8 : decode cX7_fillWorths 8 = .ok (.iconst 0, 1) := by decide +kernel
theorem dX7_fillWorths_9 : decode cX7_fillWorths 9 = .ok (.istore_n 3, 1) := by decide +kernel
theorem dX7_fillWorths_10 : decode cX7_fillWorths 10 = .ok (.iload_n 3, 1) := by decide +kernel
theorem dX7_fillWorths_11 : decode cX7_fillWorths 11 = .ok (.bipush 64, 2) := by decide +kernel
theorem dX7_fillWorths_13 : decode cX7_fillWorths 13 = .ok (.if_icmp .ge 42, 3) := by decide +kernel
theorem dX7_fillWorths_16 : decode cX7_fillWorths 16 = .ok (.iload_n 3, 1) := by decide +kernel
theorem dX7_fillWorths_17 : decode cX7_fillWorths 17 = .ok (.iload_n 2, 1) := by decide +kernel
theorem dX7_fillWorths_18 : decode cX7_fillWorths 18 = .ok (.iand, 1) := by decide +kernel
theorem dX7_fillWorths_19 : decode cX7_fillWorths 19 = .ok (.istore 4, 2) := by decide +kernel
theorem dX7_fillWorths_21 : decode cX7_fillWorths 21 = .ok (.aload_n 0, 1) := by decide +kernel
theorem dX7_fillWorths_22 : decode cX7_fillWorths 22 = .ok (.getfield 42, 3) := by decide +kernel
theorem dX7_fillWorths_25 : decode cX7_fillWorths 25 = .ok (.iload_n 3, 1) := by decide +kernel
theorem dX7_fillWorths_26 : decode cX7_fillWorths 26 = .ok (.iload 4, 2) := by decide +kernel
theorem dX7_fillWorths_28 : decode cX7_fillWorths 28 = .ok (.iload_n 3, 1) := by decide +kernel
theorem dX7_fillWorths_29 : decode cX7_fillWorths 29 = .ok (.if_icmp .ge 13, 3) := by decide +kernel
theorem dX7_fillWorths_32 : decode cX7_fillWorths 32 = .ok (.aload_n 0, 1) := by decide +kernel
theorem dX7_fillWorths_33 : decode cX7_fillWorths 33 = .ok (.getfield 42, 3) := by decide +kernel
theorem dX7_fillWorths_36 : decode cX7_fillWorths 36 = .ok (.iload 4, 2) := by decide +kernel
theorem dX7_fillWorths_38 : decode cX7_fillWorths 38 = .ok (.iaload, 1) := by decide +kernel
theorem dX7_fillWorths_39 : decode cX7_fillWorths 39 = .ok (.goto 9, 3) := by decide +kernel
theorem dX7_fillWorths_42 : decode cX7_fillWorths 42 = .ok (.aload_n 0, 1) := by decide +kernel
theorem dX7_fillWorths_43 : decode cX7_fillWorths 43 = .ok (.iload_n 3, 1) := by decide +kernel
theorem dX7_fillWorths_44 : decode cX7_fillWorths 44 = .ok (.iload_n 1, 1) := by decide +kernel
theorem dX7_fillWorths_45 : decode cX7_fillWorths 45 = .ok (.invokevirtual 141, 3) := by decide +kernel
theorem dX7_fillWorths_48 : decode cX7_fillWorths 48 = .ok (.iastore, 1) := by decide +kernel
theorem dX7_fillWorths_49 : decode cX7_fillWorths 49 = .ok (.iinc 3 1, 3) := by decide +kernel
theorem dX7_fillWorths_52 : decode cX7_fillWorths 52 = .ok (.goto (-42), 3) := by decide +kernel
theorem dX7_fillWorths_55 : decode cX7_fillWorths 55 = .ok (.return_, 1) := by decide +kernel
theorem dX7_contributionTo_0 : decode cX7_contributionTo 0 = .ok (.aload_n 0, 1) := by decide +kernel
theorem dX7_contributionTo_1 : decode cX7_contributionTo 1 = .ok (.getfield 42, 3) := by decide +kernel
theorem dX7_contributionTo_4 : decode cX7_contributionTo 4 = .ok (.iload_n 1, 1) := by decide +kernel
theorem dX7_contributionTo_5 : decode cX7_contributionTo 5 = .ok (.iconst 1, 1) := by decide +kernel
theorem dX7_contributionTo_6 : decode cX7_contributionTo 6 = .ok (.iload_n 2, 1) := by decide +kernel
theorem dX7_contributionTo_7 : decode cX7_contributionTo 7 = .ok (.ishl, 1) := by decide +kernel
theorem dX7_contributionTo_8 : decode cX7_contributionTo 8 = .ok (.ior, 1) := by decide +kernel
theorem dX7_contributionTo_9 : decode cX7_contributionTo 9 = .ok (.iaload, 1) := by decide +kernel
theorem dX7_contributionTo_10 : decode cX7_contributionTo 10 = .ok (.aload_n 0, 1) := by decide +kernel
theorem dX7_contributionTo_11 : decode cX7_contributionTo 11 = .ok (.getfield 42, 3) := by decide +kernel
theorem dX7_contributionTo_14 : decode cX7_contributionTo 14 = .ok (.iload_n 1, 1) := by decide +kernel
theorem dX7_contributionTo_15 : decode cX7_contributionTo 15 = .ok (.iaload, 1) := by decide +kernel
theorem dX7_contributionTo_16 : decode cX7_contributionTo 16 = .ok (.isub, 1) := by decide +kernel
theorem dX7_contributionTo_17 : decode cX7_contributionTo 17 = .ok (.ireturn, 1) := by decide +kernel
theorem dX7_sumOverOrders_0 : decode cX7_sumOverOrders 0 = .ok (.iconst 0, 1) := by decide +kernel
theorem dX7_sumOverOrders_1 : decode cX7_sumOverOrders 1 = .ok (.istore_n 2, 1) := by decide +kernel
theorem dX7_sumOverOrders_2 : decode cX7_sumOverOrders 2 = .ok (.iconst 0, 1) := by decide +kernel
theorem dX7_sumOverOrders_3 : decode cX7_sumOverOrders 3 = .ok (.istore_n 3, 1) := by decide +kernel
theorem dX7_sumOverOrders_4 : decode cX7_sumOverOrders 4 = .ok (.iload_n 3, 1) := by decide +kernel
theorem dX7_sumOverOrders_5 : decode cX7_sumOverOrders 5 = .ok (.bipush 64, 2) := by decide +kernel
theorem dX7_sumOverOrders_7 : decode cX7_sumOverOrders 7 = .ok (.if_icmp .ge 35, 3) := by decide +kernel
theorem dX7_sumOverOrders_10 : decode cX7_sumOverOrders 10 = .ok (.iload_n 3, 1) := by decide +kernel
theorem dX7_sumOverOrders_11 : decode cX7_sumOverOrders 11 = .ok (.iload_n 1, 1) := by decide +kernel
theorem dX7_sumOverOrders_12 : decode cX7_sumOverOrders 12 = .ok (.invokestatic 144, 3) := by decide +kernel
theorem dX7_sumOverOrders_15 : decode cX7_sumOverOrders 15 = .ok (.ifCond .ne 21, 3) := by decide +kernel
theorem dX7_sumOverOrders_18 : decode cX7_sumOverOrders 18 = .ok (.iload_n 2, 1) := by decide +kernel
theorem dX7_sumOverOrders_19 : decode cX7_sumOverOrders 19 = .ok (.getstatic 275, 3) := by decide +kernel
theorem dX7_sumOverOrders_22 : decode cX7_sumOverOrders 22 = .ok (.iload_n 3, 1) := by decide +kernel
theorem dX7_sumOverOrders_23 : decode cX7_sumOverOrders 23 = .ok (.invokestatic 188, 3) := by decide +kernel
theorem dX7_sumOverOrders_26 : decode cX7_sumOverOrders 26 = .ok (.iaload, 1) := by decide +kernel
theorem dX7_sumOverOrders_27 : decode cX7_sumOverOrders 27 = .ok (.aload_n 0, 1) := by decide +kernel
theorem dX7_sumOverOrders_28 : decode cX7_sumOverOrders 28 = .ok (.iload_n 3, 1) := by decide +kernel
theorem dX7_sumOverOrders_29 : decode cX7_sumOverOrders 29 = .ok (.iload_n 1, 1) := by decide +kernel
theorem dX7_sumOverOrders_30 : decode cX7_sumOverOrders 30 = .ok (.invokevirtual 182, 3) := by decide +kernel
theorem dX7_sumOverOrders_33 : decode cX7_sumOverOrders 33 = .ok (.imul, 1) := by decide +kernel
theorem dX7_sumOverOrders_34 : decode cX7_sumOverOrders 34 = .ok (.iadd, 1) := by decide +kernel
theorem dX7_sumOverOrders_35 : decode cX7_sumOverOrders 35 = .ok (.istore_n 2, 1) := by decide +kernel
theorem dX7_sumOverOrders_36 : decode cX7_sumOverOrders 36 = .ok (.iinc 3 1, 3) := by decide +kernel
theorem dX7_sumOverOrders_39 : decode cX7_sumOverOrders 39 = .ok (.goto (-35), 3) := by decide +kernel
theorem dX7_sumOverOrders_42 : decode cX7_sumOverOrders 42 = .ok (.iload_n 2, 1) := by decide +kernel
theorem dX7_sumOverOrders_43 : decode cX7_sumOverOrders 43 = .ok (.ireturn, 1) := by decide +kernel
theorem dX7_sumOverSets_0 : decode cX7_sumOverSets 0 = .ok (.iconst 0, 1) := by decide +kernel
theorem dX7_sumOverSets_1 : decode cX7_sumOverSets 1 = .ok (.istore_n 2, 1) := by decide +kernel
theorem dX7_sumOverSets_2 : decode cX7_sumOverSets 2 = .ok (.iconst 0, 1) := by decide +kernel
theorem dX7_sumOverSets_3 : decode cX7_sumOverSets 3 = .ok (.istore_n 3, 1) := by decide +kernel
theorem dX7_sumOverSets_4 : decode cX7_sumOverSets 4 = .ok (.iload_n 3, 1) := by decide +kernel
theorem dX7_sumOverSets_5 : decode cX7_sumOverSets 5 = .ok (.bipush 64, 2) := by decide +kernel
theorem dX7_sumOverSets_7 : decode cX7_sumOverSets 7 = .ok (.if_icmp .ge 26, 3) := by decide +kernel
theorem dX7_sumOverSets_10 : decode cX7_sumOverSets 10 = .ok (.iload_n 3, 1) := by decide +kernel
theorem dX7_sumOverSets_11 : decode cX7_sumOverSets 11 = .ok (.iload_n 1, 1) := by decide +kernel
theorem dX7_sumOverSets_12 : decode cX7_sumOverSets 12 = .ok (.invokestatic 144, 3) := by decide +kernel
theorem dX7_sumOverSets_15 : decode cX7_sumOverSets 15 = .ok (.ifCond .ne 12, 3) := by decide +kernel
theorem dX7_sumOverSets_18 : decode cX7_sumOverSets 18 = .ok (.iload_n 2, 1) := by decide +kernel
theorem dX7_sumOverSets_19 : decode cX7_sumOverSets 19 = .ok (.aload_n 0, 1) := by decide +kernel
theorem dX7_sumOverSets_20 : decode cX7_sumOverSets 20 = .ok (.iload_n 3, 1) := by decide +kernel
theorem dX7_sumOverSets_21 : decode cX7_sumOverSets 21 = .ok (.iload_n 1, 1) := by decide +kernel
theorem dX7_sumOverSets_22 : decode cX7_sumOverSets 22 = .ok (.invokevirtual 182, 3) := by decide +kernel
theorem dX7_sumOverSets_25 : decode cX7_sumOverSets 25 = .ok (.iadd, 1) := by decide +kernel
theorem dX7_sumOverSets_26 : decode cX7_sumOverSets 26 = .ok (.istore_n 2, 1) := by decide +kernel
theorem dX7_sumOverSets_27 : decode cX7_sumOverSets 27 = .ok (.iinc 3 1, 3) := by decide +kernel
theorem dX7_sumOverSets_30 : decode cX7_sumOverSets 30 = .ok (.goto (-26), 3) := by decide +kernel
theorem dX7_sumOverSets_33 : decode cX7_sumOverSets 33 = .ok (.iload_n 2, 1) := by decide +kernel
theorem dX7_sumOverSets_34 : decode cX7_sumOverSets 34 = .ok (.ireturn, 1) := by decide +kernel
theorem dX7_sumOfInteractions_0 : decode cX7_sumOfInteractions 0 = .ok (.iconst 0, 1) := by decide +kernel
theorem dX7_sumOfInteractions_1 : decode cX7_sumOfInteractions 1 = .ok (.istore_n 3, 1) := by decide +kernel
theorem dX7_sumOfInteractions_2 : decode cX7_sumOfInteractions 2 = .ok (.iconst 0, 1) := by decide +kernel
theorem dX7_sumOfInteractions_3 : decode cX7_sumOfInteractions 3 = .ok (.istore 4, 2) := by decide +kernel
theorem dX7_sumOfInteractions_5 : decode cX7_sumOfInteractions 5 = .ok (.iload 4, 2) := by decide +kernel
theorem dX7_sumOfInteractions_7 : decode cX7_sumOfInteractions 7 = .ok (.bipush 64, 2) := by decide +kernel
theorem dX7_sumOfInteractions_9 : decode cX7_sumOfInteractions 9 = .ok (.if_icmp .ge 49, 3) := by decide +kernel
theorem dX7_sumOfInteractions_12 : decode cX7_sumOfInteractions 12 = .ok (.iload 4, 2) := by decide +kernel
theorem dX7_sumOfInteractions_14 : decode cX7_sumOfInteractions 14 = .ok (.iload_n 1, 1) := by decide +kernel
theorem dX7_sumOfInteractions_15 : decode cX7_sumOfInteractions 15 = .ok (.invokestatic 144, 3) := by decide +kernel
theorem dX7_sumOfInteractions_18 : decode cX7_sumOfInteractions 18 = .ok (.ifCond .ne 34, 3) := by decide +kernel
theorem dX7_sumOfInteractions_21 : decode cX7_sumOfInteractions 21 = .ok (.iload 4, 2) := by decide +kernel
theorem dX7_sumOfInteractions_23 : decode cX7_sumOfInteractions 23 = .ok (.iload_n 2, 1) := by decide +kernel
theorem dX7_sumOfInteractions_24 : decode cX7_sumOfInteractions 24 = .ok (.invokestatic 144, 3) := by decide +kernel
theorem dX7_sumOfInteractions_27 : decode cX7_sumOfInteractions 27 = .ok (.ifCond .ne 25, 3) := by decide +kernel
theorem dX7_sumOfInteractions_30 : decode cX7_sumOfInteractions 30 = .ok (.iload_n 3, 1) := by decide +kernel
theorem dX7_sumOfInteractions_31 : decode cX7_sumOfInteractions 31 = .ok (.aload_n 0, 1) := by decide +kernel
theorem dX7_sumOfInteractions_32 : decode cX7_sumOfInteractions 32 = .ok (.iload 4, 2) := by decide +kernel
theorem dX7_sumOfInteractions_34 : decode cX7_sumOfInteractions 34 = .ok (.iconst 1, 1) := by decide +kernel
theorem dX7_sumOfInteractions_35 : decode cX7_sumOfInteractions 35 = .ok (.iload_n 2, 1) := by decide +kernel
theorem dX7_sumOfInteractions_36 : decode cX7_sumOfInteractions 36 = .ok (.ishl, 1) := by decide +kernel
theorem dX7_sumOfInteractions_37 : decode cX7_sumOfInteractions 37 = .ok (.ior, 1) := by decide +kernel
theorem dX7_sumOfInteractions_38 : decode cX7_sumOfInteractions 38 = .ok (.iload_n 1, 1) := by decide +kernel
theorem dX7_sumOfInteractions_39 : decode cX7_sumOfInteractions 39 = .ok (.invokevirtual 182, 3) := by decide +kernel
theorem dX7_sumOfInteractions_42 : decode cX7_sumOfInteractions 42 = .ok (.aload_n 0, 1) := by decide +kernel
theorem dX7_sumOfInteractions_43 : decode cX7_sumOfInteractions 43 = .ok (.iload 4, 2) := by decide +kernel
theorem dX7_sumOfInteractions_45 : decode cX7_sumOfInteractions 45 = .ok (.iload_n 1, 1) := by decide +kernel
theorem dX7_sumOfInteractions_46 : decode cX7_sumOfInteractions 46 = .ok (.invokevirtual 182, 3) := by decide +kernel
theorem dX7_sumOfInteractions_49 : decode cX7_sumOfInteractions 49 = .ok (.isub, 1) := by decide +kernel
theorem dX7_sumOfInteractions_50 : decode cX7_sumOfInteractions 50 = .ok (.iadd, 1) := by decide +kernel
theorem dX7_sumOfInteractions_51 : decode cX7_sumOfInteractions 51 = .ok (.istore_n 3, 1) := by decide +kernel
theorem dX7_sumOfInteractions_52 : decode cX7_sumOfInteractions 52 = .ok (.iinc 4 1, 3) := by decide +kernel
theorem dX7_sumOfInteractions_55 : decode cX7_sumOfInteractions 55 = .ok (.goto (-50), 3) := by decide +kernel
theorem dX7_sumOfInteractions_58 : decode cX7_sumOfInteractions 58 = .ok (.iload_n 3, 1) := by decide +kernel
theorem dX7_sumOfInteractions_59 : decode cX7_sumOfInteractions 59 = .ok (.ireturn, 1) := by decide +kernel
theorem dX7_partOfFraction_0 : decode cX7_partOfFraction 0 = .ok (.iload_n 0, 1) := by decide +kernel
theorem dX7_partOfFraction_1 : decode cX7_partOfFraction 1 = .ok (.invokestatic 278, 3) := by decide +kernel
theorem dX7_partOfFraction_4 : decode cX7_partOfFraction 4 = .ok (.iload_n 1, 1) := by decide +kernel
theorem dX7_partOfFraction_5 : decode cX7_partOfFraction 5 = .ok (.invokestatic 281, 3) := by decide +kernel
theorem dX7_partOfFraction_8 : decode cX7_partOfFraction 8 = .ok (.istore_n 3, 1) := by decide +kernel
theorem dX7_partOfFraction_9 : decode cX7_partOfFraction 9 = .ok (.iload_n 2, 1) := by decide +kernel
theorem dX7_partOfFraction_10 : decode cX7_partOfFraction 10 = .ok (.ifCond .ne 7, 3) := by decide +kernel
theorem dX7_partOfFraction_13 : decode cX7_partOfFraction 13 = .ok (.iload_n 0, 1) := by decide +kernel
theorem dX7_partOfFraction_14 : decode cX7_partOfFraction 14 = .ok (.goto 4, 3) := by decide +kernel
theorem dX7_partOfFraction_17 : decode cX7_partOfFraction 17 = .ok (.iload_n 1, 1) := by decide +kernel
theorem dX7_partOfFraction_18 : decode cX7_partOfFraction 18 = .ok (.iload_n 3, 1) := by decide +kernel
theorem dX7_partOfFraction_19 : decode cX7_partOfFraction 19 = .ok (.invokestatic 284, 3) := by decide +kernel
theorem dX7_partOfFraction_22 : decode cX7_partOfFraction 22 = .ok (.ireturn, 1) := by decide +kernel
theorem dX7_commonDivisor_0 : decode cX7_commonDivisor 0 = .ok (.iload_n 0, 1) := by decide +kernel
theorem dX7_commonDivisor_1 : decode cX7_commonDivisor 1 = .ok (.istore_n 2, 1) := by decide +kernel
theorem dX7_commonDivisor_2 : decode cX7_commonDivisor 2 = .ok (.iload_n 1, 1) := by decide +kernel
theorem dX7_commonDivisor_3 : decode cX7_commonDivisor 3 = .ok (.istore_n 3, 1) := by decide +kernel
theorem dX7_commonDivisor_4 : decode cX7_commonDivisor 4 = .ok (.iconst 0, 1) := by decide +kernel
theorem dX7_commonDivisor_5 : decode cX7_commonDivisor 5 = .ok (.istore 4, 2) := by decide +kernel
theorem dX7_commonDivisor_7 : decode cX7_commonDivisor 7 = .ok (.iload 4, 2) := by decide +kernel
theorem dX7_commonDivisor_9 : decode cX7_commonDivisor 9 = .ok (.bipush 64, 2) := by decide +kernel
theorem dX7_commonDivisor_11 : decode cX7_commonDivisor 11 = .ok (.if_icmp .ge 23, 3) := by decide +kernel
theorem dX7_commonDivisor_14 : decode cX7_commonDivisor 14 = .ok (.iload_n 3, 1) := by decide +kernel
theorem dX7_commonDivisor_15 : decode cX7_commonDivisor 15 = .ok (.ifCond .le 19, 3) := by decide +kernel
theorem dX7_commonDivisor_18 : decode cX7_commonDivisor 18 = .ok (.iload_n 2, 1) := by decide +kernel
theorem dX7_commonDivisor_19 : decode cX7_commonDivisor 19 = .ok (.iload_n 3, 1) := by decide +kernel
theorem dX7_commonDivisor_20 : decode cX7_commonDivisor 20 = .ok (.irem, 1) := by decide +kernel
theorem dX7_commonDivisor_21 : decode cX7_commonDivisor 21 = .ok (.istore 5, 2) := by decide +kernel
theorem dX7_commonDivisor_23 : decode cX7_commonDivisor 23 = .ok (.iload_n 3, 1) := by decide +kernel
theorem dX7_commonDivisor_24 : decode cX7_commonDivisor 24 = .ok (.istore_n 2, 1) := by decide +kernel
theorem dX7_commonDivisor_25 : decode cX7_commonDivisor 25 = .ok (.iload 5, 2) := by decide +kernel
theorem dX7_commonDivisor_27 : decode cX7_commonDivisor 27 = .ok (.istore_n 3, 1) := by decide +kernel
theorem dX7_commonDivisor_28 : decode cX7_commonDivisor 28 = .ok (.iinc 4 1, 3) := by decide +kernel
theorem dX7_commonDivisor_31 : decode cX7_commonDivisor 31 = .ok (.goto (-24), 3) := by decide +kernel
theorem dX7_commonDivisor_34 : decode cX7_commonDivisor 34 = .ok (.iload_n 2, 1) := by decide +kernel
theorem dX7_commonDivisor_35 : decode cX7_commonDivisor 35 = .ok (.ireturn, 1) := by decide +kernel
theorem dX7_rankByBlames_0 : decode cX7_rankByBlames 0 = .ok (.iconst 0, 1) := by decide +kernel
theorem dX7_rankByBlames_1 : decode cX7_rankByBlames 1 = .ok (.istore_n 2, 1) := by decide +kernel
theorem dX7_rankByBlames_2 : decode cX7_rankByBlames 2 = .ok (.iconst 0, 1) := by decide +kernel
theorem dX7_rankByBlames_3 : decode cX7_rankByBlames 3 = .ok (.istore_n 3, 1) := by decide +kernel
theorem dX7_rankByBlames_4 : decode cX7_rankByBlames 4 = .ok (.iload_n 3, 1) := by decide +kernel
theorem dX7_rankByBlames_5 : decode cX7_rankByBlames 5 = .ok (.bipush 6, 2) := by decide +kernel
theorem dX7_rankByBlames_7 : decode cX7_rankByBlames 7 = .ok (.if_icmp .ge 67, 3) := by decide +kernel
theorem dX7_rankByBlames_10 : decode cX7_rankByBlames 10 = .ok (.iload_n 3, 1) := by decide +kernel
theorem dX7_rankByBlames_11 : decode cX7_rankByBlames 11 = .ok (.iload_n 1, 1) := by decide +kernel
theorem dX7_rankByBlames_12 : decode cX7_rankByBlames 12 = .ok (.if_icmp .ge 26, 3) := by decide +kernel
theorem dX7_rankByBlames_15 : decode cX7_rankByBlames 15 = .ok (.aload_n 0, 1) := by decide +kernel
theorem dX7_rankByBlames_16 : decode cX7_rankByBlames 16 = .ok (.getfield 46, 3) := by decide +kernel
theorem dX7_rankByBlames_19 : decode cX7_rankByBlames 19 = .ok (.iload_n 3, 1) := by decide +kernel
theorem dX7_rankByBlames_20 : decode cX7_rankByBlames 20 = .ok (.iaload, 1) := by decide +kernel
theorem dX7_rankByBlames_21 : decode cX7_rankByBlames 21 = .ok (.aload_n 0, 1) := by decide +kernel
theorem dX7_rankByBlames_22 : decode cX7_rankByBlames 22 = .ok (.getfield 46, 3) := by decide +kernel
theorem dX7_rankByBlames_25 : decode cX7_rankByBlames 25 = .ok (.iload_n 1, 1) := by decide +kernel
theorem dX7_rankByBlames_26 : decode cX7_rankByBlames 26 = .ok (.iaload, 1) := by decide +kernel
theorem dX7_rankByBlames_27 : decode cX7_rankByBlames 27 = .ok (.if_icmp .lt 7, 3) := by decide +kernel
theorem dX7_rankByBlames_30 : decode cX7_rankByBlames 30 = .ok (.iconst 1, 1) := by decide +kernel
theorem dX7_rankByBlames_31 : decode cX7_rankByBlames 31 = .ok (.goto 27, 3) := by decide +kernel
theorem dX7_rankByBlames_34 : decode cX7_rankByBlames 34 = .ok (.iconst 0, 1) := by decide +kernel
theorem dX7_rankByBlames_35 : decode cX7_rankByBlames 35 = .ok (.goto 23, 3) := by decide +kernel
theorem dX7_rankByBlames_38 : decode cX7_rankByBlames 38 = .ok (.aload_n 0, 1) := by decide +kernel
theorem dX7_rankByBlames_39 : decode cX7_rankByBlames 39 = .ok (.getfield 46, 3) := by decide +kernel
theorem dX7_rankByBlames_42 : decode cX7_rankByBlames 42 = .ok (.iload_n 3, 1) := by decide +kernel
theorem dX7_rankByBlames_43 : decode cX7_rankByBlames 43 = .ok (.iaload, 1) := by decide +kernel
theorem dX7_rankByBlames_44 : decode cX7_rankByBlames 44 = .ok (.aload_n 0, 1) := by decide +kernel
theorem dX7_rankByBlames_45 : decode cX7_rankByBlames 45 = .ok (.getfield 46, 3) := by decide +kernel
theorem dX7_rankByBlames_48 : decode cX7_rankByBlames 48 = .ok (.iload_n 1, 1) := by decide +kernel
theorem dX7_rankByBlames_49 : decode cX7_rankByBlames 49 = .ok (.iaload, 1) := by decide +kernel
theorem dX7_rankByBlames_50 : decode cX7_rankByBlames 50 = .ok (.if_icmp .le 7, 3) := by decide +kernel
theorem dX7_rankByBlames_53 : decode cX7_rankByBlames 53 = .ok (.iconst 1, 1) := by decide +kernel
theorem dX7_rankByBlames_54 : decode cX7_rankByBlames 54 = .ok (.goto 4, 3) := by decide +kernel
theorem dX7_rankByBlames_57 : decode cX7_rankByBlames 57 = .ok (.iconst 0, 1) := by decide +kernel
theorem dX7_rankByBlames_58 : decode cX7_rankByBlames 58 = .ok (.istore 4, 2) := by decide +kernel
theorem dX7_rankByBlames_60 : decode cX7_rankByBlames 60 = .ok (.iload 4, 2) := by decide +kernel
theorem dX7_rankByBlames_62 : decode cX7_rankByBlames 62 = .ok (.ifCond .eq 6, 3) := by decide +kernel
theorem dX7_rankByBlames_65 : decode cX7_rankByBlames 65 = .ok (.iinc 2 1, 3) := by decide +kernel
theorem dX7_rankByBlames_68 : decode cX7_rankByBlames 68 = .ok (.iinc 3 1, 3) := by decide +kernel
theorem dX7_rankByBlames_71 : decode cX7_rankByBlames 71 = .ok (.goto (-67), 3) := by decide +kernel
theorem dX7_rankByBlames_74 : decode cX7_rankByBlames 74 = .ok (.iload_n 2, 1) := by decide +kernel
theorem dX7_rankByBlames_75 : decode cX7_rankByBlames 75 = .ok (.ireturn, 1) := by decide +kernel
theorem dX7_drawOrder_0 : decode cX7_drawOrder 0 = .ok (.iconst 0, 1) := by decide +kernel
theorem dX7_drawOrder_1 : decode cX7_drawOrder 1 = .ok (.istore_n 3, 1) := by decide +kernel
theorem dX7_drawOrder_2 : decode cX7_drawOrder 2 = .ok (.iload_n 3, 1) := by decide +kernel
theorem dX7_drawOrder_3 : decode cX7_drawOrder 3 = .ok (.bipush 6, 2) := by decide +kernel
theorem dX7_drawOrder_5 : decode cX7_drawOrder 5 = .ok (.if_icmp .ge 16, 3) := by decide +kernel
theorem dX7_drawOrder_8 : decode cX7_drawOrder 8 = .ok (.aload_n 0, 1) := by decide +kernel
theorem dX7_drawOrder_9 : decode cX7_drawOrder 9 = .ok (.getfield 49, 3) := by decide +kernel
theorem dX7_drawOrder_12 : decode cX7_drawOrder 12 = .ok (.iload_n 3, 1) := by decide +kernel
theorem dX7_drawOrder_13 : decode cX7_drawOrder 13 = .ok (.iload_n 3, 1) := by decide +kernel
theorem dX7_drawOrder_14 : decode cX7_drawOrder 14 = .ok (.iastore, 1) := by decide +kernel
theorem dX7_drawOrder_15 : decode cX7_drawOrder 15 = .ok (.iinc 3 1, 3) := by decide +kernel
theorem dX7_drawOrder_18 : decode cX7_drawOrder 18 = .ok (.goto (-16), 3) := by decide +kernel
theorem dX7_drawOrder_21 : decode cX7_drawOrder 21 = .ok (.lload_n 1, 1) := by decide +kernel
theorem dX7_drawOrder_22 : decode cX7_drawOrder 22 = .ok (.lstore_n 3, 1) := by decide +kernel
theorem dX7_drawOrder_23 : decode cX7_drawOrder 23 = .ok (.iconst 5, 1) := by decide +kernel
theorem dX7_drawOrder_24 : decode cX7_drawOrder 24 = .ok (.istore 5, 2) := by decide +kernel
theorem dX7_drawOrder_26 : decode cX7_drawOrder 26 = .ok (.iload 5, 2) := by decide +kernel
theorem dX7_drawOrder_28 : decode cX7_drawOrder 28 = .ok (.iconst 1, 1) := by decide +kernel
theorem dX7_drawOrder_29 : decode cX7_drawOrder 29 = .ok (.if_icmp .lt 67, 3) := by decide +kernel
theorem dX7_drawOrder_32 : decode cX7_drawOrder 32 = .ok (.ldc2_w 287, 3) := by decide +kernel
theorem dX7_drawOrder_35 : decode cX7_drawOrder 35 = .ok (.lload_n 3, 1) := by decide +kernel
theorem dX7_drawOrder_36 : decode cX7_drawOrder 36 = .ok (.lmul, 1) := by decide +kernel
theorem dX7_drawOrder_37 : decode cX7_drawOrder 37 = .ok (.ldc2_w 289, 3) := by decide +kernel
theorem dX7_drawOrder_40 : decode cX7_drawOrder 40 = .ok (.ladd, 1) := by decide +kernel
theorem dX7_drawOrder_41 : decode cX7_drawOrder 41 = .ok (.ldc2_w 291, 3) := by decide +kernel
theorem dX7_drawOrder_44 : decode cX7_drawOrder 44 = .ok (.land, 1) := by decide +kernel
theorem dX7_drawOrder_45 : decode cX7_drawOrder 45 = .ok (.lstore_n 3, 1) := by decide +kernel
theorem dX7_drawOrder_46 : decode cX7_drawOrder 46 = .ok (.lload_n 3, 1) := by decide +kernel
theorem dX7_drawOrder_47 : decode cX7_drawOrder 47 = .ok (.bipush 16, 2) := by decide +kernel
theorem dX7_drawOrder_49 : decode cX7_drawOrder 49 = .ok (.lshr, 1) := by decide +kernel
theorem dX7_drawOrder_50 : decode cX7_drawOrder 50 = .ok (.l2i, 1) := by decide +kernel
theorem dX7_drawOrder_51 : decode cX7_drawOrder 51 = .ok (.iload 5, 2) := by decide +kernel
theorem dX7_drawOrder_53 : decode cX7_drawOrder 53 = .ok (.iconst 1, 1) := by decide +kernel
theorem dX7_drawOrder_54 : decode cX7_drawOrder 54 = .ok (.iadd, 1) := by decide +kernel
theorem dX7_drawOrder_55 : decode cX7_drawOrder 55 = .ok (.irem, 1) := by decide +kernel
theorem dX7_drawOrder_56 : decode cX7_drawOrder 56 = .ok (.istore 6, 2) := by decide +kernel
theorem dX7_drawOrder_58 : decode cX7_drawOrder 58 = .ok (.aload_n 0, 1) := by decide +kernel
theorem dX7_drawOrder_59 : decode cX7_drawOrder 59 = .ok (.getfield 49, 3) := by decide +kernel
theorem dX7_drawOrder_62 : decode cX7_drawOrder 62 = .ok (.iload 5, 2) := by decide +kernel
theorem dX7_drawOrder_64 : decode cX7_drawOrder 64 = .ok (.iaload, 1) := by decide +kernel
theorem dX7_drawOrder_65 : decode cX7_drawOrder 65 = .ok (.istore 7, 2) := by decide +kernel
theorem dX7_drawOrder_67 : decode cX7_drawOrder 67 = .ok (.aload_n 0, 1) := by decide +kernel
theorem dX7_drawOrder_68 : decode cX7_drawOrder 68 = .ok (.getfield 49, 3) := by decide +kernel
theorem dX7_drawOrder_71 : decode cX7_drawOrder 71 = .ok (.iload 5, 2) := by decide +kernel
theorem dX7_drawOrder_73 : decode cX7_drawOrder 73 = .ok (.aload_n 0, 1) := by decide +kernel
theorem dX7_drawOrder_74 : decode cX7_drawOrder 74 = .ok (.getfield 49, 3) := by decide +kernel
theorem dX7_drawOrder_77 : decode cX7_drawOrder 77 = .ok (.iload 6, 2) := by decide +kernel
theorem dX7_drawOrder_79 : decode cX7_drawOrder 79 = .ok (.iaload, 1) := by decide +kernel
theorem dX7_drawOrder_80 : decode cX7_drawOrder 80 = .ok (.iastore, 1) := by decide +kernel
theorem dX7_drawOrder_81 : decode cX7_drawOrder 81 = .ok (.aload_n 0, 1) := by decide +kernel
theorem dX7_drawOrder_82 : decode cX7_drawOrder 82 = .ok (.getfield 49, 3) := by decide +kernel
theorem dX7_drawOrder_85 : decode cX7_drawOrder 85 = .ok (.iload 6, 2) := by decide +kernel
theorem dX7_drawOrder_87 : decode cX7_drawOrder 87 = .ok (.iload 7, 2) := by decide +kernel
theorem dX7_drawOrder_89 : decode cX7_drawOrder 89 = .ok (.iastore, 1) := by decide +kernel
theorem dX7_drawOrder_90 : decode cX7_drawOrder 90 = .ok (.iinc 5 (-1), 3) := by decide +kernel
theorem dX7_drawOrder_93 : decode cX7_drawOrder 93 = .ok (.goto (-67), 3) := by decide +kernel
theorem dX7_drawOrder_96 : decode cX7_drawOrder 96 = .ok (.lload_n 3, 1) := by decide +kernel
theorem dX7_drawOrder_97 : decode cX7_drawOrder 97 = .ok (.lreturn, 1) := by decide +kernel
theorem dX7_flowsBefore_0 : decode cX7_flowsBefore 0 = .ok (.iconst 0, 1) := by decide +kernel
theorem dX7_flowsBefore_1 : decode cX7_flowsBefore 1 = .ok (.istore_n 2, 1) := by decide +kernel
theorem dX7_flowsBefore_2 : decode cX7_flowsBefore 2 = .ok (.iconst 0, 1) := by decide +kernel
theorem dX7_flowsBefore_3 : decode cX7_flowsBefore 3 = .ok (.istore_n 3, 1) := by decide +kernel
theorem dX7_flowsBefore_4 : decode cX7_flowsBefore 4 = .ok (.iload_n 3, 1) := by decide +kernel
theorem dX7_flowsBefore_5 : decode cX7_flowsBefore 5 = .ok (.bipush 6, 2) := by decide +kernel
theorem dX7_flowsBefore_7 : decode cX7_flowsBefore 7 = .ok (.if_icmp .ge 30, 3) := by decide +kernel
theorem dX7_flowsBefore_10 : decode cX7_flowsBefore 10 = .ok (.aload_n 0, 1) := by decide +kernel
theorem dX7_flowsBefore_11 : decode cX7_flowsBefore 11 = .ok (.getfield 49, 3) := by decide +kernel
theorem dX7_flowsBefore_14 : decode cX7_flowsBefore 14 = .ok (.iload_n 3, 1) := by decide +kernel
theorem dX7_flowsBefore_15 : decode cX7_flowsBefore 15 = .ok (.iaload, 1) := by decide +kernel
theorem dX7_flowsBefore_16 : decode cX7_flowsBefore 16 = .ok (.iload_n 1, 1) := by decide +kernel
theorem dX7_flowsBefore_17 : decode cX7_flowsBefore 17 = .ok (.if_icmp .eq 20, 3) := by decide +kernel
theorem dX7_flowsBefore_20 : decode cX7_flowsBefore 20 = .ok (.iload_n 2, 1) := by decide +kernel
theorem dX7_flowsBefore_21 : decode cX7_flowsBefore 21 = .ok (.iconst 1, 1) := by decide +kernel
theorem dX7_flowsBefore_22 : decode cX7_flowsBefore 22 = .ok (.aload_n 0, 1) := by decide +kernel
theorem dX7_flowsBefore_23 : decode cX7_flowsBefore 23 = .ok (.getfield 49, 3) := by decide +kernel
theorem dX7_flowsBefore_26 : decode cX7_flowsBefore 26 = .ok (.iload_n 3, 1) := by decide +kernel
theorem dX7_flowsBefore_27 : decode cX7_flowsBefore 27 = .ok (.iaload, 1) := by decide +kernel
theorem dX7_flowsBefore_28 : decode cX7_flowsBefore 28 = .ok (.ishl, 1) := by decide +kernel
theorem dX7_flowsBefore_29 : decode cX7_flowsBefore 29 = .ok (.ior, 1) := by decide +kernel
theorem dX7_flowsBefore_30 : decode cX7_flowsBefore 30 = .ok (.istore_n 2, 1) := by decide +kernel
theorem dX7_flowsBefore_31 : decode cX7_flowsBefore 31 = .ok (.iinc 3 1, 3) := by decide +kernel
theorem dX7_flowsBefore_34 : decode cX7_flowsBefore 34 = .ok (.goto (-30), 3) := by decide +kernel
theorem dX7_flowsBefore_37 : decode cX7_flowsBefore 37 = .ok (.iload_n 2, 1) := by decide +kernel
theorem dX7_flowsBefore_38 : decode cX7_flowsBefore 38 = .ok (.ireturn, 1) := by decide +kernel
theorem dX7_smallestCause_0 : decode cX7_smallestCause 0 = .ok (.aload_n 0, 1) := by decide +kernel
theorem dX7_smallestCause_1 : decode cX7_smallestCause 1 = .ok (.bipush 63, 2) := by decide +kernel
theorem dX7_smallestCause_3 : decode cX7_smallestCause 3 = .ok (.iload_n 1, 1) := by decide +kernel
theorem dX7_smallestCause_4 : decode cX7_smallestCause 4 = .ok (.invokevirtual 293, 3) := by decide +kernel
theorem dX7_smallestCause_7 : decode cX7_smallestCause 7 = .ok (.ifCond .ne 5, 3) := by decide +kernel
theorem dX7_smallestCause_10 : decode cX7_smallestCause 10 = .ok (.iconst 0, 1) := by decide +kernel
theorem dX7_smallestCause_11 : decode cX7_smallestCause 11 = .ok (.ireturn, 1) := by decide +kernel
theorem dX7_smallestCause_12 : decode cX7_smallestCause 12 = .ok (.iconst 1, 1) := by decide +kernel
theorem dX7_smallestCause_13 : decode cX7_smallestCause 13 = .ok (.istore_n 2, 1) := by decide +kernel
theorem dX7_smallestCause_14 : decode cX7_smallestCause 14 = .ok (.iload_n 2, 1) := by decide +kernel
theorem dX7_smallestCause_15 : decode cX7_smallestCause 15 = .ok (.bipush 6, 2) := by decide +kernel
theorem dX7_smallestCause_17 : decode cX7_smallestCause 17 = .ok (.if_icmp .ge 42, 3) := by decide +kernel
theorem dX7_smallestCause_20 : decode cX7_smallestCause 20 = .ok (.iconst 1, 1) := by decide +kernel
theorem dX7_smallestCause_21 : decode cX7_smallestCause 21 = .ok (.istore_n 3, 1) := by decide +kernel
theorem dX7_smallestCause_22 : decode cX7_smallestCause 22 = .ok (.iload_n 3, 1) := by decide +kernel
theorem dX7_smallestCause_23 : decode cX7_smallestCause 23 = .ok (.bipush 64, 2) := by decide +kernel
theorem dX7_smallestCause_25 : decode cX7_smallestCause 25 = .ok (.if_icmp .ge 28, 3) := by decide +kernel
theorem dX7_smallestCause_28 : decode cX7_smallestCause 28 = .ok (.iload_n 3, 1) := by decide +kernel
theorem dX7_smallestCause_29 : decode cX7_smallestCause 29 = .ok (.invokestatic 188, 3) := by decide +kernel
theorem dX7_smallestCause_32 : decode cX7_smallestCause 32 = .ok (.iload_n 2, 1) := by decide +kernel
theorem dX7_smallestCause_33 : decode cX7_smallestCause 33 = .ok (.if_icmp .ne 14, 3) := by decide +kernel
theorem dX7_smallestCause_36 : decode cX7_smallestCause 36 = .ok (.aload_n 0, 1) := by decide +kernel
theorem dX7_smallestCause_37 : decode cX7_smallestCause 37 = .ok (.iload_n 3, 1) := by decide +kernel
theorem dX7_smallestCause_38 : decode cX7_smallestCause 38 = .ok (.iload_n 1, 1) := by decide +kernel
theorem dX7_smallestCause_39 : decode cX7_smallestCause 39 = .ok (.invokevirtual 193, 3) := by decide +kernel
theorem dX7_smallestCause_42 : decode cX7_smallestCause 42 = .ok (.ifCond .eq 5, 3) := by decide +kernel
theorem dX7_smallestCause_45 : decode cX7_smallestCause 45 = .ok (.iload_n 3, 1) := by decide +kernel
theorem dX7_smallestCause_46 : decode cX7_smallestCause 46 = .ok (.ireturn, 1) := by decide +kernel
theorem dX7_smallestCause_47 : decode cX7_smallestCause 47 = .ok (.iinc 3 1, 3) := by decide +kernel
theorem dX7_smallestCause_50 : decode cX7_smallestCause 50 = .ok (.goto (-28), 3) := by decide +kernel
theorem dX7_smallestCause_53 : decode cX7_smallestCause 53 = .ok (.iinc 2 1, 3) := by decide +kernel
theorem dX7_smallestCause_56 : decode cX7_smallestCause 56 = .ok (.goto (-42), 3) := by decide +kernel
theorem dX7_smallestCause_59 : decode cX7_smallestCause 59 = .ok (.iconst (-1), 1) := by decide +kernel
theorem dX7_smallestCause_60 : decode cX7_smallestCause 60 = .ok (.ireturn, 1) := by decide +kernel
theorem dX7_isCause_0 : decode cX7_isCause 0 = .ok (.iload_n 1, 1) := by decide +kernel
theorem dX7_isCause_1 : decode cX7_isCause 1 = .ok (.aload_n 0, 1) := by decide +kernel
theorem dX7_isCause_2 : decode cX7_isCause 2 = .ok (.getfield 10, 3) := by decide +kernel
theorem dX7_isCause_5 : decode cX7_isCause 5 = .ok (.getfield 96, 3) := by decide +kernel
theorem dX7_isCause_8 : decode cX7_isCause 8 = .ok (.iload_n 2, 1) := by decide +kernel
theorem dX7_isCause_9 : decode cX7_isCause 9 = .ok (.iaload, 1) := by decide +kernel
theorem dX7_isCause_10 : decode cX7_isCause 10 = .ok (.invokestatic 144, 3) := by decide +kernel
theorem dX7_isCause_13 : decode cX7_isCause 13 = .ok (.ifCond .ne 21, 3) := by decide +kernel
theorem dX7_isCause_16 : decode cX7_isCause 16 = .ok (.aload_n 0, 1) := by decide +kernel
theorem dX7_isCause_17 : decode cX7_isCause 17 = .ok (.bipush 63, 2) := by decide +kernel
theorem dX7_isCause_19 : decode cX7_isCause 19 = .ok (.iload_n 1, 1) := by decide +kernel
theorem dX7_isCause_20 : decode cX7_isCause 20 = .ok (.iconst (-1), 1) := by decide +kernel
theorem dX7_isCause_21 : decode cX7_isCause 21 = .ok (.ixor, 1) := by decide +kernel
theorem dX7_isCause_22 : decode cX7_isCause 22 = .ok (.iand, 1) := by decide +kernel
theorem dX7_isCause_23 : decode cX7_isCause 23 = .ok (.iload_n 2, 1) := by decide +kernel
theorem dX7_isCause_24 : decode cX7_isCause 24 = .ok (.invokevirtual 293, 3) := by decide +kernel
theorem dX7_isCause_27 : decode cX7_isCause 27 = .ok (.ifCond .ne 7, 3) := by decide +kernel
theorem dX7_isCause_30 : decode cX7_isCause 30 = .ok (.iconst 1, 1) := by decide +kernel
theorem dX7_isCause_31 : decode cX7_isCause 31 = .ok (.goto 4, 3) := by decide +kernel
theorem dX7_isCause_34 : decode cX7_isCause 34 = .ok (.iconst 0, 1) := by decide +kernel
theorem dX7_isCause_35 : decode cX7_isCause 35 = .ok (.ireturn, 1) := by decide +kernel
theorem dX7_isDroppedWith_0 : decode cX7_isDroppedWith 0 = .ok (.aload_n 0, 1) := by decide +kernel
theorem dX7_isDroppedWith_1 : decode cX7_isDroppedWith 1 = .ok (.getfield 32, 3) := by decide +kernel
theorem dX7_isDroppedWith_4 : decode cX7_isDroppedWith 4 = .ok (.iload_n 1, 1) := by decide +kernel
theorem dX7_isDroppedWith_5 : decode cX7_isDroppedWith 5 = .ok (.aload_n 0, 1) := by decide +kernel
theorem dX7_isDroppedWith_6 : decode cX7_isDroppedWith 6 = .ok (.getfield 10, 3) := by decide +kernel
theorem dX7_isDroppedWith_9 : decode cX7_isDroppedWith 9 = .ok (.getfield 111, 3) := by decide +kernel
theorem dX7_isDroppedWith_12 : decode cX7_isDroppedWith 12 = .ok (.iconst 0, 1) := by decide +kernel
theorem dX7_isDroppedWith_13 : decode cX7_isDroppedWith 13 = .ok (.iaload, 1) := by decide +kernel
theorem dX7_isDroppedWith_14 : decode cX7_isDroppedWith 14 = .ok (.aload_n 0, 1) := by decide +kernel
theorem dX7_isDroppedWith_15 : decode cX7_isDroppedWith 15 = .ok (.getfield 10, 3) := by decide +kernel
theorem dX7_isDroppedWith_18 : decode cX7_isDroppedWith 18 = .ok (.getfield 111, 3) := by decide +kernel
theorem dX7_isDroppedWith_21 : decode cX7_isDroppedWith 21 = .ok (.iconst 2, 1) := by decide +kernel
theorem dX7_isDroppedWith_22 : decode cX7_isDroppedWith 22 = .ok (.iaload, 1) := by decide +kernel
theorem dX7_isDroppedWith_23 : decode cX7_isDroppedWith 23 = .ok (.invokevirtual 114, 3) := by decide +kernel
theorem dX7_isDroppedWith_26 : decode cX7_isDroppedWith 26 = .ok (.aload_n 0, 1) := by decide +kernel
theorem dX7_isDroppedWith_27 : decode cX7_isDroppedWith 27 = .ok (.getfield 32, 3) := by decide +kernel
theorem dX7_isDroppedWith_30 : decode cX7_isDroppedWith 30 = .ok (.getfield 118, 3) := by decide +kernel
theorem dX7_isDroppedWith_33 : decode cX7_isDroppedWith 33 = .ok (.iload_n 2, 1) := by decide +kernel
theorem dX7_isDroppedWith_34 : decode cX7_isDroppedWith 34 = .ok (.invokevirtual 127, 3) := by decide +kernel
theorem dX7_isDroppedWith_37 : decode cX7_isDroppedWith 37 = .ok (.bipush (-2), 2) := by decide +kernel
theorem dX7_isDroppedWith_39 : decode cX7_isDroppedWith 39 = .ok (.if_icmp .ne 7, 3) := by decide +kernel
theorem dX7_isDroppedWith_42 : decode cX7_isDroppedWith 42 = .ok (.iconst 1, 1) := by decide +kernel
theorem dX7_isDroppedWith_43 : decode cX7_isDroppedWith 43 = .ok (.goto 4, 3) := by decide +kernel
theorem dX7_isDroppedWith_46 : decode cX7_isDroppedWith 46 = .ok (.iconst 0, 1) := by decide +kernel
theorem dX7_isDroppedWith_47 : decode cX7_isDroppedWith 47 = .ok (.ireturn, 1) := by decide +kernel
theorem dX7_carryOut_0 : decode cX7_carryOut 0 = .ok (.iload_n 2, 1) := by decide +kernel
theorem dX7_carryOut_1 : decode cX7_carryOut 1 = .ok (.ifCond .lt 21, 3) := by decide +kernel
theorem dX7_carryOut_4 : decode cX7_carryOut 4 = .ok (.iload_n 2, 1) := by decide +kernel
theorem dX7_carryOut_5 : decode cX7_carryOut 5 = .ok (.iconst 2, 1) := by decide +kernel
theorem dX7_carryOut_6 : decode cX7_carryOut 6 = .ok (.iadd, 1) := by decide +kernel
theorem dX7_carryOut_7 : decode cX7_carryOut 7 = .ok (.aload_n 0, 1) := by decide +kernel
theorem dX7_carryOut_8 : decode cX7_carryOut 8 = .ok (.getfield 38, 3) := by decide +kernel
theorem dX7_carryOut_11 : decode cX7_carryOut 11 = .ok (.getfield 296, 3) := by decide +kernel
theorem dX7_carryOut_14 : decode cX7_carryOut 14 = .ok (.arraylength, 1) := by decide +kernel
theorem dX7_carryOut_15 : decode cX7_carryOut 15 = .ok (.if_icmp .ge 7, 3) := by decide +kernel
theorem dX7_carryOut_18 : decode cX7_carryOut 18 = .ok (.aload_n 1, 1) := by decide +kernel
theorem dX7_carryOut_19 : decode cX7_carryOut 19 = .ok (.ifnonnull 5, 3) := by decide +kernel
theorem dX7_carryOut_22 : decode cX7_carryOut 22 = .ok (.iconst 0, 1) := by decide +kernel
theorem dX7_carryOut_23 : decode cX7_carryOut 23 = .ok (.ireturn, 1) := by decide +kernel
theorem dX7_carryOut_24 : decode cX7_carryOut 24 = .ok (.aload_n 0, 1) := by decide +kernel
theorem dX7_carryOut_25 : decode cX7_carryOut 25 = .ok (.getfield 38, 3) := by decide +kernel
theorem dX7_carryOut_28 : decode cX7_carryOut 28 = .ok (.getfield 296, 3) := by decide +kernel
theorem dX7_carryOut_31 : decode cX7_carryOut 31 = .ok (.iload_n 2, 1) := by decide +kernel
theorem dX7_carryOut_32 : decode cX7_carryOut 32 = .ok (.iaload, 1) := by decide +kernel
theorem dX7_carryOut_33 : decode cX7_carryOut 33 = .ok (.istore_n 3, 1) := by decide +kernel
theorem dX7_carryOut_34 : decode cX7_carryOut 34 = .ok (.aload_n 0, 1) := by decide +kernel
theorem dX7_carryOut_35 : decode cX7_carryOut 35 = .ok (.getfield 38, 3) := by decide +kernel
theorem dX7_carryOut_38 : decode cX7_carryOut 38 = .ok (.getfield 296, 3) := by decide +kernel
theorem dX7_carryOut_41 : decode cX7_carryOut 41 = .ok (.iload_n 2, 1) := by decide +kernel
theorem dX7_carryOut_42 : decode cX7_carryOut 42 = .ok (.iconst 1, 1) := by decide +kernel
theorem dX7_carryOut_43 : decode cX7_carryOut 43 = .ok (.iadd, 1) := by decide +kernel
theorem dX7_carryOut_44 : decode cX7_carryOut 44 = .ok (.iaload, 1) := by decide +kernel
theorem dX7_carryOut_45 : decode cX7_carryOut 45 = .ok (.istore 4, 2) := by decide +kernel
theorem dX7_carryOut_47 : decode cX7_carryOut 47 = .ok (.aload_n 0, 1) := by decide +kernel
theorem dX7_carryOut_48 : decode cX7_carryOut 48 = .ok (.getfield 38, 3) := by decide +kernel
theorem dX7_carryOut_51 : decode cX7_carryOut 51 = .ok (.getfield 296, 3) := by decide +kernel
theorem dX7_carryOut_54 : decode cX7_carryOut 54 = .ok (.iload_n 2, 1) := by decide +kernel
theorem dX7_carryOut_55 : decode cX7_carryOut 55 = .ok (.iconst 2, 1) := by decide +kernel
theorem dX7_carryOut_56 : decode cX7_carryOut 56 = .ok (.iadd, 1) := by decide +kernel
theorem dX7_carryOut_57 : decode cX7_carryOut 57 = .ok (.iaload, 1) := by decide +kernel
theorem dX7_carryOut_58 : decode cX7_carryOut 58 = .ok (.istore 5, 2) := by decide +kernel
theorem dX7_carryOut_60 : decode cX7_carryOut 60 = .ok (.aload_n 1, 1) := by decide +kernel
theorem dX7_carryOut_61 : decode cX7_carryOut 61 = .ok (.getstatic 299, 3) := by decide +kernel
theorem dX7_carryOut_64 : decode cX7_carryOut 64 = .ok (.if_acmp .ne 36, 3) := by decide +kernel
theorem dX7_carryOut_67 : decode cX7_carryOut 67 = .ok (.iload_n 3, 1) := by decide +kernel
theorem dX7_carryOut_68 : decode cX7_carryOut 68 = .ok (.iload 4, 2) := by decide +kernel
theorem dX7_carryOut_70 : decode cX7_carryOut 70 = .ok (.iload 5, 2) := by decide +kernel
theorem dX7_carryOut_72 : decode cX7_carryOut 72 = .ok (.invokestatic 56, 3) := by decide +kernel
theorem dX7_carryOut_75 : decode cX7_carryOut 75 = .ok (.ifCond .eq 23, 3) := by decide +kernel
theorem dX7_carryOut_78 : decode cX7_carryOut 78 = .ok (.aload_n 0, 1) := by decide +kernel
theorem dX7_carryOut_79 : decode cX7_carryOut 79 = .ok (.getfield 10, 3) := by decide +kernel
theorem dX7_carryOut_82 : decode cX7_carryOut 82 = .ok (.iload_n 3, 1) := by decide +kernel
theorem dX7_carryOut_83 : decode cX7_carryOut 83 = .ok (.iload 4, 2) := by decide +kernel
theorem dX7_carryOut_85 : decode cX7_carryOut 85 = .ok (.iload 5, 2) := by decide +kernel
theorem dX7_carryOut_87 : decode cX7_carryOut 87 = .ok (.invokevirtual 79, 3) := by decide +kernel
theorem dX7_carryOut_90 : decode cX7_carryOut 90 = .ok (.iconst (-1), 1) := by decide +kernel
theorem dX7_carryOut_91 : decode cX7_carryOut 91 = .ok (.if_icmp .eq 7, 3) := by decide +kernel
theorem dX7_carryOut_94 : decode cX7_carryOut 94 = .ok (.iconst 1, 1) := by decide +kernel
theorem dX7_carryOut_95 : decode cX7_carryOut 95 = .ok (.goto 4, 3) := by decide +kernel
theorem dX7_carryOut_98 : decode cX7_carryOut 98 = .ok (.iconst 0, 1) := by decide +kernel
theorem dX7_carryOut_99 : decode cX7_carryOut 99 = .ok (.ireturn, 1) := by decide +kernel
theorem dX7_carryOut_100 : decode cX7_carryOut 100 = .ok (.aload_n 1, 1) := by decide +kernel
theorem dX7_carryOut_101 : decode cX7_carryOut 101 = .ok (.getstatic 305, 3) := by decide +kernel
theorem dX7_carryOut_104 : decode cX7_carryOut 104 = .ok (.if_acmp .ne 32, 3) := by decide +kernel
theorem dX7_carryOut_107 : decode cX7_carryOut 107 = .ok (.iload_n 3, 1) := by decide +kernel
theorem dX7_carryOut_108 : decode cX7_carryOut 108 = .ok (.invokestatic 246, 3) := by decide +kernel
theorem dX7_carryOut_111 : decode cX7_carryOut 111 = .ok (.ifCond .eq 23, 3) := by decide +kernel
theorem dX7_carryOut_114 : decode cX7_carryOut 114 = .ok (.aload_n 0, 1) := by decide +kernel
theorem dX7_carryOut_115 : decode cX7_carryOut 115 = .ok (.getfield 10, 3) := by decide +kernel
theorem dX7_carryOut_118 : decode cX7_carryOut 118 = .ok (.bipush 8, 2) := by decide +kernel
theorem dX7_carryOut_120 : decode cX7_carryOut 120 = .ok (.iload_n 3, 1) := by decide +kernel
theorem dX7_carryOut_121 : decode cX7_carryOut 121 = .ok (.iadd, 1) := by decide +kernel
theorem dX7_carryOut_122 : decode cX7_carryOut 122 = .ok (.iload 4, 2) := by decide +kernel
theorem dX7_carryOut_124 : decode cX7_carryOut 124 = .ok (.invokevirtual 308, 3) := by decide +kernel
theorem dX7_carryOut_127 : decode cX7_carryOut 127 = .ok (.ifCond .eq 7, 3) := by decide +kernel
theorem dX7_carryOut_130 : decode cX7_carryOut 130 = .ok (.iconst 1, 1) := by decide +kernel
theorem dX7_carryOut_131 : decode cX7_carryOut 131 = .ok (.goto 4, 3) := by decide +kernel
theorem dX7_carryOut_134 : decode cX7_carryOut 134 = .ok (.iconst 0, 1) := by decide +kernel
theorem dX7_carryOut_135 : decode cX7_carryOut 135 = .ok (.ireturn, 1) := by decide +kernel
theorem dX7_carryOut_136 : decode cX7_carryOut 136 = .ok (.aload_n 0, 1) := by decide +kernel
theorem dX7_carryOut_137 : decode cX7_carryOut 137 = .ok (.getfield 10, 3) := by decide +kernel
theorem dX7_carryOut_140 : decode cX7_carryOut 140 = .ok (.aload_n 1, 1) := by decide +kernel
theorem dX7_carryOut_141 : decode cX7_carryOut 141 = .ok (.getfield 311, 3) := by decide +kernel
theorem dX7_carryOut_144 : decode cX7_carryOut 144 = .ok (.iload_n 3, 1) := by decide +kernel
theorem dX7_carryOut_145 : decode cX7_carryOut 145 = .ok (.invokevirtual 308, 3) := by decide +kernel
theorem dX7_carryOut_148 : decode cX7_carryOut 148 = .ok (.ireturn, 1) := by decide +kernel

theorem dX1_init_0 : decode cX1_init 0 = .ok (.aload_n 0, 1) := by decide +kernel
theorem dX1_init_1 : decode cX1_init 1 = .ok (.invokespecial 3, 3) := by decide +kernel
theorem dX1_init_4 : decode cX1_init 4 = .ok (.aload_n 0, 1) := by decide +kernel
theorem dX1_init_5 : decode cX1_init 5 = .ok (.bipush 8, 2) := by decide +kernel
theorem dX1_init_7 : decode cX1_init 7 = .ok (.anewarray 9, 3) := by decide +kernel
theorem dX1_init_10 : decode cX1_init 10 = .ok (.putfield 11, 3) := by decide +kernel
theorem dX1_init_13 : decode cX1_init 13 = .ok (.iconst 0, 1) := by decide +kernel
theorem dX1_init_14 : decode cX1_init 14 = .ok (.istore_n 1, 1) := by decide +kernel
theorem dX1_init_15 : decode cX1_init 15 = .ok (.iload_n 1, 1) := by decide +kernel
theorem dX1_init_16 : decode cX1_init 16 = .ok (.bipush 8, 2) := by decide +kernel
theorem dX1_init_18 : decode cX1_init 18 = .ok (.if_icmp .ge 22, 3) := by decide +kernel
theorem dX1_init_21 : decode cX1_init 21 = .ok (.aload_n 0, 1) := by decide +kernel
theorem dX1_init_22 : decode cX1_init 22 = .ok (.getfield 11, 3) := by decide +kernel
theorem dX1_init_25 : decode cX1_init 25 = .ok (.iload_n 1, 1) := by decide +kernel
theorem dX1_init_26 : decode cX1_init 26 = .ok (.new 9, 3) := by decide +kernel
theorem dX1_init_29 : decode cX1_init 29 = .ok (.dup, 1) := by decide +kernel
theorem dX1_init_30 : decode cX1_init 30 = .ok (.invokespecial 17, 3) := by decide +kernel
theorem dX1_init_33 : decode cX1_init 33 = .ok (.aastore, 1) := by decide +kernel
theorem dX1_init_34 : decode cX1_init 34 = .ok (.iinc 1 1, 3) := by decide +kernel
theorem dX1_init_37 : decode cX1_init 37 = .ok (.goto (-22), 3) := by decide +kernel
theorem dX1_init_40 : decode cX1_init 40 = .ok (.return_, 1) := by decide +kernel
theorem dX1_save_0 : decode cX1_save 0 = .ok (.aload_n 0, 1) := by decide +kernel
theorem dX1_save_1 : decode cX1_save 1 = .ok (.aload_n 0, 1) := by decide +kernel
theorem dX1_save_2 : decode cX1_save 2 = .ok (.getfield 18, 3) := by decide +kernel
theorem dX1_save_5 : decode cX1_save 5 = .ok (.iconst 1, 1) := by decide +kernel
theorem dX1_save_6 : decode cX1_save 6 = .ok (.iadd, 1) := by decide +kernel
theorem dX1_save_7 : decode cX1_save 7 = .ok (.bipush 8, 2) := by decide +kernel
theorem dX1_save_9 : decode cX1_save 9 = .ok (.irem, 1) := by decide +kernel
theorem dX1_save_10 : decode cX1_save 10 = .ok (.putfield 18, 3) := by decide +kernel
theorem dX1_save_13 : decode cX1_save 13 = .ok (.aload_n 0, 1) := by decide +kernel
theorem dX1_save_14 : decode cX1_save 14 = .ok (.getfield 11, 3) := by decide +kernel
theorem dX1_save_17 : decode cX1_save 17 = .ok (.aload_n 0, 1) := by decide +kernel
theorem dX1_save_18 : decode cX1_save 18 = .ok (.getfield 18, 3) := by decide +kernel
theorem dX1_save_21 : decode cX1_save 21 = .ok (.aaload, 1) := by decide +kernel
theorem dX1_save_22 : decode cX1_save 22 = .ok (.aload_n 1, 1) := by decide +kernel
theorem dX1_save_23 : decode cX1_save 23 = .ok (.invokevirtual 22, 3) := by decide +kernel
theorem dX1_save_26 : decode cX1_save 26 = .ok (.aload_n 0, 1) := by decide +kernel
theorem dX1_save_27 : decode cX1_save 27 = .ok (.aload_n 0, 1) := by decide +kernel
theorem dX1_save_28 : decode cX1_save 28 = .ok (.getfield 26, 3) := by decide +kernel
theorem dX1_save_31 : decode cX1_save 31 = .ok (.iconst 1, 1) := by decide +kernel
theorem dX1_save_32 : decode cX1_save 32 = .ok (.iadd, 1) := by decide +kernel
theorem dX1_save_33 : decode cX1_save 33 = .ok (.bipush 8, 2) := by decide +kernel
theorem dX1_save_35 : decode cX1_save 35 = .ok (.invokestatic 29, 3) := by decide +kernel
theorem dX1_save_38 : decode cX1_save 38 = .ok (.putfield 26, 3) := by decide +kernel
theorem dX1_save_41 : decode cX1_save 41 = .ok (.return_, 1) := by decide +kernel
theorem dX1_restore_0 : decode cX1_restore 0 = .ok (.aload_n 1, 1) := by decide +kernel
theorem dX1_restore_1 : decode cX1_restore 1 = .ok (.aload_n 0, 1) := by decide +kernel
theorem dX1_restore_2 : decode cX1_restore 2 = .ok (.getfield 11, 3) := by decide +kernel
theorem dX1_restore_5 : decode cX1_restore 5 = .ok (.aload_n 0, 1) := by decide +kernel
theorem dX1_restore_6 : decode cX1_restore 6 = .ok (.getfield 18, 3) := by decide +kernel
theorem dX1_restore_9 : decode cX1_restore 9 = .ok (.aaload, 1) := by decide +kernel
theorem dX1_restore_10 : decode cX1_restore 10 = .ok (.invokevirtual 22, 3) := by decide +kernel
theorem dX1_restore_13 : decode cX1_restore 13 = .ok (.aload_n 0, 1) := by decide +kernel
theorem dX1_restore_14 : decode cX1_restore 14 = .ok (.aload_n 0, 1) := by decide +kernel
theorem dX1_restore_15 : decode cX1_restore 15 = .ok (.getfield 18, 3) := by decide +kernel
theorem dX1_restore_18 : decode cX1_restore 18 = .ok (.bipush 8, 2) := by decide +kernel
theorem dX1_restore_20 : decode cX1_restore 20 = .ok (.iadd, 1) := by decide +kernel
theorem dX1_restore_21 : decode cX1_restore 21 = .ok (.iconst 1, 1) := by decide +kernel
theorem dX1_restore_22 : decode cX1_restore 22 = .ok (.isub, 1) := by decide +kernel
theorem dX1_restore_23 : decode cX1_restore 23 = .ok (.bipush 8, 2) := by decide +kernel
theorem dX1_restore_25 : decode cX1_restore 25 = .ok (.irem, 1) := by decide +kernel
theorem dX1_restore_26 : decode cX1_restore 26 = .ok (.putfield 18, 3) := by decide +kernel
theorem dX1_restore_29 : decode cX1_restore 29 = .ok (.aload_n 0, 1) := by decide +kernel
theorem dX1_restore_30 : decode cX1_restore 30 = .ok (.dup, 1) := by decide +kernel
theorem dX1_restore_31 : decode cX1_restore 31 = .ok (.getfield 26, 3) := by decide +kernel
theorem dX1_restore_34 : decode cX1_restore 34 = .ok (.iconst 1, 1) := by decide +kernel
theorem dX1_restore_35 : decode cX1_restore 35 = .ok (.isub, 1) := by decide +kernel
theorem dX1_restore_36 : decode cX1_restore 36 = .ok (.putfield 26, 3) := by decide +kernel
theorem dX1_restore_39 : decode cX1_restore 39 = .ok (.return_, 1) := by decide +kernel
theorem dX2_init_0 : decode cX2_init 0 = .ok (.aload_n 0, 1) := by decide +kernel
theorem dX2_init_1 : decode cX2_init 1 = .ok (.invokespecial 3, 3) := by decide +kernel
theorem dX2_init_4 : decode cX2_init 4 = .ok (.aload_n 0, 1) := by decide +kernel
theorem dX2_init_5 : decode cX2_init 5 = .ok (.bipush 40, 2) := by decide +kernel
theorem dX2_init_7 : decode cX2_init 7 = .ok (.newarray .int, 2) := by decide +kernel
theorem dX2_init_9 : decode cX2_init 9 = .ok (.putfield 9, 3) := by decide +kernel
theorem dX2_init_12 : decode cX2_init 12 = .ok (.aload_n 0, 1) := by decide +kernel
theorem dX2_init_13 : decode cX2_init 13 = .ok (.bipush 40, 2) := by decide +kernel
theorem dX2_init_15 : decode cX2_init 15 = .ok (.newarray .int, 2) := by decide +kernel
theorem dX2_init_17 : decode cX2_init 17 = .ok (.putfield 15, 3) := by decide +kernel
theorem dX2_init_20 : decode cX2_init 20 = .ok (.return_, 1) := by decide +kernel
theorem dX2_empty_0 : decode cX2_empty 0 = .ok (.aload_n 0, 1) := by decide +kernel
theorem dX2_empty_1 : decode cX2_empty 1 = .ok (.iconst 0, 1) := by decide +kernel
theorem dX2_empty_2 : decode cX2_empty 2 = .ok (.putfield 18, 3) := by decide +kernel
theorem dX2_empty_5 : decode cX2_empty 5 = .ok (.aload_n 0, 1) := by decide +kernel
theorem dX2_empty_6 : decode cX2_empty 6 = .ok (.iconst 0, 1) := by decide +kernel
theorem dX2_empty_7 : decode cX2_empty 7 = .ok (.putfield 22, 3) := by decide +kernel
theorem dX2_empty_10 : decode cX2_empty 10 = .ok (.aload_n 0, 1) := by decide +kernel
theorem dX2_empty_11 : decode cX2_empty 11 = .ok (.iconst (-1), 1) := by decide +kernel
theorem dX2_empty_12 : decode cX2_empty 12 = .ok (.putfield 25, 3) := by decide +kernel
theorem dX2_empty_15 : decode cX2_empty 15 = .ok (.return_, 1) := by decide +kernel
theorem dX2_join_0 : decode cX2_join 0 = .ok (.aload_n 0, 1) := by decide +kernel
theorem dX2_join_1 : decode cX2_join 1 = .ok (.getfield 18, 3) := by decide +kernel
theorem dX2_join_4 : decode cX2_join 4 = .ok (.bipush 40, 2) := by decide +kernel
theorem dX2_join_6 : decode cX2_join 6 = .ok (.if_icmp .ge 40, 3) := by decide +kernel
theorem dX2_join_9 : decode cX2_join 9 = .ok (.aload_n 0, 1) := by decide +kernel
theorem dX2_join_10 : decode cX2_join 10 = .ok (.getfield 9, 3) := by decide +kernel
theorem dX2_join_13 : decode cX2_join 13 = .ok (.aload_n 0, 1) := by decide +kernel
theorem dX2_join_14 : decode cX2_join 14 = .ok (.getfield 18, 3) := by decide +kernel
theorem dX2_join_17 : decode cX2_join 17 = .ok (.iload_n 1, 1) := by decide +kernel
theorem dX2_join_18 : decode cX2_join 18 = .ok (.iastore, 1) := by decide +kernel
theorem dX2_join_19 : decode cX2_join 19 = .ok (.aload_n 0, 1) := by decide +kernel
theorem dX2_join_20 : decode cX2_join 20 = .ok (.getfield 15, 3) := by decide +kernel
theorem dX2_join_23 : decode cX2_join 23 = .ok (.iload_n 1, 1) := by decide +kernel
theorem dX2_join_24 : decode cX2_join 24 = .ok (.iload_n 2, 1) := by decide +kernel
theorem dX2_join_25 : decode cX2_join 25 = .ok (.iastore, 1) := by decide +kernel
theorem dX2_join_26 : decode cX2_join 26 = .ok (.aload_n 0, 1) := by decide +kernel
theorem dX2_join_27 : decode cX2_join 27 = .ok (.dup, 1) := by decide +kernel
theorem dX2_join_28 : decode cX2_join 28 = .ok (.getfield 18, 3) := by decide +kernel
theorem dX2_join_31 : decode cX2_join 31 = .ok (.iconst 1, 1) := by decide +kernel
theorem dX2_join_32 : decode cX2_join 32 = .ok (.iadd, 1) := by decide +kernel
theorem dX2_join_33 : decode cX2_join 33 = .ok (.putfield 18, 3) := by decide +kernel
theorem dX2_join_36 : decode cX2_join 36 = .ok (.aload_n 0, 1) := by decide +kernel
theorem dX2_join_37 : decode cX2_join 37 = .ok (.dup, 1) := by decide +kernel
theorem dX2_join_38 : decode cX2_join 38 = .ok (.getfield 22, 3) := by decide +kernel
theorem dX2_join_41 : decode cX2_join 41 = .ok (.iload_n 2, 1) := by decide +kernel
theorem dX2_join_42 : decode cX2_join 42 = .ok (.iadd, 1) := by decide +kernel
theorem dX2_join_43 : decode cX2_join 43 = .ok (.putfield 22, 3) := by decide +kernel
theorem dX2_join_46 : decode cX2_join 46 = .ok (.return_, 1) := by decide +kernel
theorem dX2_takeOut_0 : decode cX2_takeOut 0 = .ok (.iload_n 1, 1) := by decide +kernel
theorem dX2_takeOut_1 : decode cX2_takeOut 1 = .ok (.ifCond .lt 11, 3) := by decide +kernel
theorem dX2_takeOut_4 : decode cX2_takeOut 4 = .ok (.iload_n 1, 1) := by decide +kernel
theorem dX2_takeOut_5 : decode cX2_takeOut 5 = .ok (.aload_n 0, 1) := by decide +kernel
theorem dX2_takeOut_6 : decode cX2_takeOut 6 = .ok (.getfield 18, 3) := by decide +kernel
theorem dX2_takeOut_9 : decode cX2_takeOut 9 = .ok (.if_icmp .lt 5, 3) := by decide +kernel
theorem dX2_takeOut_12 : decode cX2_takeOut 12 = .ok (.iconst (-1), 1) := by decide +kernel
theorem dX2_takeOut_13 : decode cX2_takeOut 13 = .ok (.ireturn, 1) := by decide +kernel
theorem dX2_takeOut_14 : decode cX2_takeOut 14 = .ok (.aload_n 0, 1) := by decide +kernel
theorem dX2_takeOut_15 : decode cX2_takeOut 15 = .ok (.getfield 9, 3) := by decide +kernel
theorem dX2_takeOut_18 : decode cX2_takeOut 18 = .ok (.iload_n 1, 1) := by decide +kernel
theorem dX2_takeOut_19 : decode cX2_takeOut 19 = .ok (.iaload, 1) := by decide +kernel
theorem dX2_takeOut_20 : decode cX2_takeOut 20 = .ok (.istore_n 2, 1) := by decide +kernel
theorem dX2_takeOut_21 : decode cX2_takeOut 21 = .ok (.aload_n 0, 1) := by decide +kernel
theorem dX2_takeOut_22 : decode cX2_takeOut 22 = .ok (.dup, 1) := by decide +kernel
theorem dX2_takeOut_23 : decode cX2_takeOut 23 = .ok (.getfield 22, 3) := by decide +kernel
theorem dX2_takeOut_26 : decode cX2_takeOut 26 = .ok (.aload_n 0, 1) := by decide +kernel
theorem dX2_takeOut_27 : decode cX2_takeOut 27 = .ok (.getfield 15, 3) := by decide +kernel
theorem dX2_takeOut_30 : decode cX2_takeOut 30 = .ok (.iload_n 2, 1) := by decide +kernel
theorem dX2_takeOut_31 : decode cX2_takeOut 31 = .ok (.iaload, 1) := by decide +kernel
theorem dX2_takeOut_32 : decode cX2_takeOut 32 = .ok (.isub, 1) := by decide +kernel
theorem dX2_takeOut_33 : decode cX2_takeOut 33 = .ok (.putfield 22, 3) := by decide +kernel
theorem dX2_takeOut_36 : decode cX2_takeOut 36 = .ok (.aload_n 0, 1) := by decide +kernel
theorem dX2_takeOut_37 : decode cX2_takeOut 37 = .ok (.dup, 1) := by decide +kernel
theorem dX2_takeOut_38 : decode cX2_takeOut 38 = .ok (.getfield 18, 3) := by decide +kernel
theorem dX2_takeOut_41 : decode cX2_takeOut 41 = .ok (.iconst 1, 1) := by decide +kernel
theorem dX2_takeOut_42 : decode cX2_takeOut 42 = .ok (.isub, 1) := by decide +kernel
theorem dX2_takeOut_43 : decode cX2_takeOut 43 = .ok (.putfield 18, 3) := by decide +kernel
theorem dX2_takeOut_46 : decode cX2_takeOut 46 = .ok (.aload_n 0, 1) := by decide +kernel
theorem dX2_takeOut_47 : decode cX2_takeOut 47 = .ok (.getfield 9, 3) := by decide +kernel
theorem dX2_takeOut_50 : decode cX2_takeOut 50 = .ok (.iload_n 1, 1) := by decide +kernel
theorem dX2_takeOut_51 : decode cX2_takeOut 51 = .ok (.iconst 1, 1) := by decide +kernel
theorem dX2_takeOut_52 : decode cX2_takeOut 52 = .ok (.iadd, 1) := by decide +kernel
theorem dX2_takeOut_53 : decode cX2_takeOut 53 = .ok (.aload_n 0, 1) := by decide +kernel
theorem dX2_takeOut_54 : decode cX2_takeOut 54 = .ok (.getfield 9, 3) := by decide +kernel
theorem dX2_takeOut_57 : decode cX2_takeOut 57 = .ok (.iload_n 1, 1) := by decide +kernel
theorem dX2_takeOut_58 : decode cX2_takeOut 58 = .ok (.aload_n 0, 1) := by decide +kernel
theorem dX2_takeOut_59 : decode cX2_takeOut 59 = .ok (.getfield 18, 3) := by decide +kernel
theorem dX2_takeOut_62 : decode cX2_takeOut 62 = .ok (.iload_n 1, 1) := by decide +kernel
theorem dX2_takeOut_63 : decode cX2_takeOut 63 = .ok (.isub, 1) := by decide +kernel
theorem dX2_takeOut_64 : decode cX2_takeOut 64 = .ok (.invokestatic 28, 3) := by decide +kernel
theorem dX2_takeOut_67 : decode cX2_takeOut 67 = .ok (.iload_n 2, 1) := by decide +kernel
theorem dX2_takeOut_68 : decode cX2_takeOut 68 = .ok (.ireturn, 1) := by decide +kernel
theorem dX2_send_0 : decode cX2_send 0 = .ok (.aload_n 0, 1) := by decide +kernel
theorem dX2_send_1 : decode cX2_send 1 = .ok (.getfield 9, 3) := by decide +kernel
theorem dX2_send_4 : decode cX2_send 4 = .ok (.iload_n 1, 1) := by decide +kernel
theorem dX2_send_5 : decode cX2_send 5 = .ok (.iaload, 1) := by decide +kernel
theorem dX2_send_6 : decode cX2_send 6 = .ok (.istore_n 3, 1) := by decide +kernel
theorem dX2_send_7 : decode cX2_send 7 = .ok (.aload_n 0, 1) := by decide +kernel
theorem dX2_send_8 : decode cX2_send 8 = .ok (.getfield 15, 3) := by decide +kernel
theorem dX2_send_11 : decode cX2_send 11 = .ok (.iload_n 3, 1) := by decide +kernel
theorem dX2_send_12 : decode cX2_send 12 = .ok (.dup2, 1) := by decide +kernel
theorem dX2_send_13 : decode cX2_send 13 = .ok (.iaload, 1) := by decide +kernel
theorem dX2_send_14 : decode cX2_send 14 = .ok (.iload_n 2, 1) := by decide +kernel
theorem dX2_send_15 : decode cX2_send 15 = .ok (.isub, 1) := by decide +kernel
theorem dX2_send_16 : decode cX2_send 16 = .ok (.iastore, 1) := by decide +kernel
theorem dX2_send_17 : decode cX2_send 17 = .ok (.aload_n 0, 1) := by decide +kernel
theorem dX2_send_18 : decode cX2_send 18 = .ok (.dup, 1) := by decide +kernel
theorem dX2_send_19 : decode cX2_send 19 = .ok (.getfield 22, 3) := by decide +kernel
theorem dX2_send_22 : decode cX2_send 22 = .ok (.iload_n 2, 1) := by decide +kernel
theorem dX2_send_23 : decode cX2_send 23 = .ok (.isub, 1) := by decide +kernel
theorem dX2_send_24 : decode cX2_send 24 = .ok (.putfield 22, 3) := by decide +kernel
theorem dX2_send_27 : decode cX2_send 27 = .ok (.aload_n 0, 1) := by decide +kernel
theorem dX2_send_28 : decode cX2_send 28 = .ok (.getfield 15, 3) := by decide +kernel
theorem dX2_send_31 : decode cX2_send 31 = .ok (.iload_n 3, 1) := by decide +kernel
theorem dX2_send_32 : decode cX2_send 32 = .ok (.iaload, 1) := by decide +kernel
theorem dX2_send_33 : decode cX2_send 33 = .ok (.ifCond .ne 7, 3) := by decide +kernel
theorem dX2_send_36 : decode cX2_send 36 = .ok (.iconst 1, 1) := by decide +kernel
theorem dX2_send_37 : decode cX2_send 37 = .ok (.goto 4, 3) := by decide +kernel
theorem dX2_send_40 : decode cX2_send 40 = .ok (.iconst 0, 1) := by decide +kernel
theorem dX2_send_41 : decode cX2_send 41 = .ok (.istore 4, 2) := by decide +kernel
theorem dX2_send_43 : decode cX2_send 43 = .ok (.aload_n 0, 1) := by decide +kernel
theorem dX2_send_44 : decode cX2_send 44 = .ok (.iload 4, 2) := by decide +kernel
theorem dX2_send_46 : decode cX2_send 46 = .ok (.ifCond .eq 7, 3) := by decide +kernel
theorem dX2_send_49 : decode cX2_send 49 = .ok (.iconst (-1), 1) := by decide +kernel
theorem dX2_send_50 : decode cX2_send 50 = .ok (.goto 4, 3) := by decide +kernel
theorem dX2_send_53 : decode cX2_send 53 = .ok (.iload_n 3, 1) := by decide +kernel
theorem dX2_send_54 : decode cX2_send 54 = .ok (.putfield 25, 3) := by decide +kernel
theorem dX2_send_57 : decode cX2_send 57 = .ok (.iload 4, 2) := by decide +kernel
theorem dX2_send_59 : decode cX2_send 59 = .ok (.ifCond .eq 9, 3) := by decide +kernel
theorem dX2_send_62 : decode cX2_send 62 = .ok (.aload_n 0, 1) := by decide +kernel
theorem dX2_send_63 : decode cX2_send 63 = .ok (.iload_n 1, 1) := by decide +kernel
theorem dX2_send_64 : decode cX2_send 64 = .ok (.invokevirtual 34, 3) := by decide +kernel
theorem dX2_send_67 : decode cX2_send 67 = .ok (.pop, 1) := by decide +kernel
theorem dX2_send_68 : decode cX2_send 68 = .ok (.iload 4, 2) := by decide +kernel
theorem dX2_send_70 : decode cX2_send 70 = .ok (.ireturn, 1) := by decide +kernel
theorem dX2_positionOfBegun_0 : decode cX2_positionOfBegun 0 = .ok (.iconst 0, 1) := by decide +kernel
theorem dX2_positionOfBegun_1 : decode cX2_positionOfBegun 1 = .ok (.istore_n 1, 1) := by decide +kernel
theorem dX2_positionOfBegun_2 : decode cX2_positionOfBegun 2 = .ok (.iload_n 1, 1) := by decide +kernel
theorem dX2_positionOfBegun_3 : decode cX2_positionOfBegun 3 = .ok (.aload_n 0, 1) := by decide +kernel
theorem dX2_positionOfBegun_4 : decode cX2_positionOfBegun 4 = .ok (.getfield 18, 3) := by decide +kernel
theorem dX2_positionOfBegun_7 : decode cX2_positionOfBegun 7 = .ok (.if_icmp .ge 24, 3) := by decide +kernel
theorem dX2_positionOfBegun_10 : decode cX2_positionOfBegun 10 = .ok (.aload_n 0, 1) := by decide +kernel
theorem dX2_positionOfBegun_11 : decode cX2_positionOfBegun 11 = .ok (.getfield 9, 3) := by decide +kernel
theorem dX2_positionOfBegun_14 : decode cX2_positionOfBegun 14 = .ok (.iload_n 1, 1) := by decide +kernel
theorem dX2_positionOfBegun_15 : decode cX2_positionOfBegun 15 = .ok (.iaload, 1) := by decide +kernel
theorem dX2_positionOfBegun_16 : decode cX2_positionOfBegun 16 = .ok (.aload_n 0, 1) := by decide +kernel
theorem dX2_positionOfBegun_17 : decode cX2_positionOfBegun 17 = .ok (.getfield 25, 3) := by decide +kernel
theorem dX2_positionOfBegun_20 : decode cX2_positionOfBegun 20 = .ok (.if_icmp .ne 5, 3) := by decide +kernel
theorem dX2_positionOfBegun_23 : decode cX2_positionOfBegun 23 = .ok (.iload_n 1, 1) := by decide +kernel
theorem dX2_positionOfBegun_24 : decode cX2_positionOfBegun 24 = .ok (.ireturn, 1) := by decide +kernel
theorem dX2_positionOfBegun_25 : decode cX2_positionOfBegun 25 = .ok (.iinc 1 1, 3) := by decide +kernel
theorem dX2_positionOfBegun_28 : decode cX2_positionOfBegun 28 = .ok (.goto (-26), 3) := by decide +kernel
theorem dX2_positionOfBegun_31 : decode cX2_positionOfBegun 31 = .ok (.iconst (-1), 1) := by decide +kernel
theorem dX2_positionOfBegun_32 : decode cX2_positionOfBegun 32 = .ok (.ireturn, 1) := by decide +kernel
theorem dX2_firstNotBegun_0 : decode cX2_firstNotBegun 0 = .ok (.iconst 0, 1) := by decide +kernel
theorem dX2_firstNotBegun_1 : decode cX2_firstNotBegun 1 = .ok (.istore_n 1, 1) := by decide +kernel
theorem dX2_firstNotBegun_2 : decode cX2_firstNotBegun 2 = .ok (.iload_n 1, 1) := by decide +kernel
theorem dX2_firstNotBegun_3 : decode cX2_firstNotBegun 3 = .ok (.aload_n 0, 1) := by decide +kernel
theorem dX2_firstNotBegun_4 : decode cX2_firstNotBegun 4 = .ok (.getfield 18, 3) := by decide +kernel
theorem dX2_firstNotBegun_7 : decode cX2_firstNotBegun 7 = .ok (.if_icmp .ge 24, 3) := by decide +kernel
theorem dX2_firstNotBegun_10 : decode cX2_firstNotBegun 10 = .ok (.aload_n 0, 1) := by decide +kernel
theorem dX2_firstNotBegun_11 : decode cX2_firstNotBegun 11 = .ok (.getfield 9, 3) := by decide +kernel
theorem dX2_firstNotBegun_14 : decode cX2_firstNotBegun 14 = .ok (.iload_n 1, 1) := by decide +kernel
theorem dX2_firstNotBegun_15 : decode cX2_firstNotBegun 15 = .ok (.iaload, 1) := by decide +kernel
theorem dX2_firstNotBegun_16 : decode cX2_firstNotBegun 16 = .ok (.aload_n 0, 1) := by decide +kernel
theorem dX2_firstNotBegun_17 : decode cX2_firstNotBegun 17 = .ok (.getfield 25, 3) := by decide +kernel
theorem dX2_firstNotBegun_20 : decode cX2_firstNotBegun 20 = .ok (.if_icmp .eq 5, 3) := by decide +kernel
theorem dX2_firstNotBegun_23 : decode cX2_firstNotBegun 23 = .ok (.iload_n 1, 1) := by decide +kernel
theorem dX2_firstNotBegun_24 : decode cX2_firstNotBegun 24 = .ok (.ireturn, 1) := by decide +kernel
theorem dX2_firstNotBegun_25 : decode cX2_firstNotBegun 25 = .ok (.iinc 1 1, 3) := by decide +kernel
theorem dX2_firstNotBegun_28 : decode cX2_firstNotBegun 28 = .ok (.goto (-26), 3) := by decide +kernel
theorem dX2_firstNotBegun_31 : decode cX2_firstNotBegun 31 = .ok (.iconst (-1), 1) := by decide +kernel
theorem dX2_firstNotBegun_32 : decode cX2_firstNotBegun 32 = .ok (.ireturn, 1) := by decide +kernel
theorem dX3_init_0 : decode cX3_init 0 = .ok (.aload_n 0, 1) := by decide +kernel
theorem dX3_init_1 : decode cX3_init 1 = .ok (.invokespecial 3, 3) := by decide +kernel
theorem dX3_init_4 : decode cX3_init 4 = .ok (.aload_n 0, 1) := by decide +kernel
theorem dX3_init_5 : decode cX3_init 5 = .ok (.bipush 40, 2) := by decide +kernel
theorem dX3_init_7 : decode cX3_init 7 = .ok (.newarray .int, 2) := by decide +kernel
theorem dX3_init_9 : decode cX3_init 9 = .ok (.putfield 9, 3) := by decide +kernel
theorem dX3_init_12 : decode cX3_init 12 = .ok (.aload_n 0, 1) := by decide +kernel
theorem dX3_init_13 : decode cX3_init 13 = .ok (.bipush 40, 2) := by decide +kernel
theorem dX3_init_15 : decode cX3_init 15 = .ok (.newarray .int, 2) := by decide +kernel
theorem dX3_init_17 : decode cX3_init 17 = .ok (.putfield 15, 3) := by decide +kernel
theorem dX3_init_20 : decode cX3_init 20 = .ok (.aload_n 0, 1) := by decide +kernel
theorem dX3_init_21 : decode cX3_init 21 = .ok (.bipush 40, 2) := by decide +kernel
theorem dX3_init_23 : decode cX3_init 23 = .ok (.newarray .int, 2) := by decide +kernel
theorem dX3_init_25 : decode cX3_init 25 = .ok (.putfield 18, 3) := by decide +kernel
theorem dX3_init_28 : decode cX3_init 28 = .ok (.aload_n 0, 1) := by decide +kernel
theorem dX3_init_29 : decode cX3_init 29 = .ok (.bipush 40, 2) := by decide +kernel
theorem dX3_init_31 : decode cX3_init 31 = .ok (.newarray .int, 2) := by decide +kernel
theorem dX3_init_33 : decode cX3_init 33 = .ok (.putfield 21, 3) := by decide +kernel
theorem dX3_init_36 : decode cX3_init 36 = .ok (.return_, 1) := by decide +kernel
theorem dX3_begin_0 : decode cX3_begin 0 = .ok (.aload_n 0, 1) := by decide +kernel
theorem dX3_begin_1 : decode cX3_begin 1 = .ok (.iconst 1, 1) := by decide +kernel
theorem dX3_begin_2 : decode cX3_begin 2 = .ok (.putfield 24, 3) := by decide +kernel
theorem dX3_begin_5 : decode cX3_begin 5 = .ok (.aload_n 0, 1) := by decide +kernel
theorem dX3_begin_6 : decode cX3_begin 6 = .ok (.iload_n 1, 1) := by decide +kernel
theorem dX3_begin_7 : decode cX3_begin 7 = .ok (.putfield 28, 3) := by decide +kernel
theorem dX3_begin_10 : decode cX3_begin 10 = .ok (.aload_n 0, 1) := by decide +kernel
theorem dX3_begin_11 : decode cX3_begin 11 = .ok (.iload_n 2, 1) := by decide +kernel
theorem dX3_begin_12 : decode cX3_begin 12 = .ok (.putfield 32, 3) := by decide +kernel
theorem dX3_begin_15 : decode cX3_begin 15 = .ok (.aload_n 0, 1) := by decide +kernel
theorem dX3_begin_16 : decode cX3_begin 16 = .ok (.iconst 0, 1) := by decide +kernel
theorem dX3_begin_17 : decode cX3_begin 17 = .ok (.putfield 35, 3) := by decide +kernel
theorem dX3_begin_20 : decode cX3_begin 20 = .ok (.aload_n 0, 1) := by decide +kernel
theorem dX3_begin_21 : decode cX3_begin 21 = .ok (.iconst 0, 1) := by decide +kernel
theorem dX3_begin_22 : decode cX3_begin 22 = .ok (.putfield 38, 3) := by decide +kernel
theorem dX3_begin_25 : decode cX3_begin 25 = .ok (.return_, 1) := by decide +kernel
theorem dX3_noteDrop_0 : decode cX3_noteDrop 0 = .ok (.iload_n 1, 1) := by decide +kernel
theorem dX3_noteDrop_1 : decode cX3_noteDrop 1 = .ok (.ifCond .lt 48, 3) := by decide +kernel
theorem dX3_noteDrop_4 : decode cX3_noteDrop 4 = .ok (.iload_n 1, 1) := by decide +kernel
theorem dX3_noteDrop_5 : decode cX3_noteDrop 5 = .ok (.aload_n 0, 1) := by decide +kernel
theorem dX3_noteDrop_6 : decode cX3_noteDrop 6 = .ok (.getfield 28, 3) := by decide +kernel
theorem dX3_noteDrop_9 : decode cX3_noteDrop 9 = .ok (.if_icmp .ge 40, 3) := by decide +kernel
theorem dX3_noteDrop_12 : decode cX3_noteDrop 12 = .ok (.aload_n 0, 1) := by decide +kernel
theorem dX3_noteDrop_13 : decode cX3_noteDrop 13 = .ok (.getfield 35, 3) := by decide +kernel
theorem dX3_noteDrop_16 : decode cX3_noteDrop 16 = .ok (.bipush 40, 2) := by decide +kernel
theorem dX3_noteDrop_18 : decode cX3_noteDrop 18 = .ok (.if_icmp .ge 31, 3) := by decide +kernel
theorem dX3_noteDrop_21 : decode cX3_noteDrop 21 = .ok (.aload_n 0, 1) := by decide +kernel
theorem dX3_noteDrop_22 : decode cX3_noteDrop 22 = .ok (.getfield 9, 3) := by decide +kernel
theorem dX3_noteDrop_25 : decode cX3_noteDrop 25 = .ok (.iload_n 1, 1) := by decide +kernel
theorem dX3_noteDrop_26 : decode cX3_noteDrop 26 = .ok (.bipush (-2), 2) := by decide +kernel
theorem dX3_noteDrop_28 : decode cX3_noteDrop 28 = .ok (.iastore, 1) := by decide +kernel
theorem dX3_noteDrop_29 : decode cX3_noteDrop 29 = .ok (.aload_n 0, 1) := by decide +kernel
theorem dX3_noteDrop_30 : decode cX3_noteDrop 30 = .ok (.getfield 15, 3) := by decide +kernel
theorem dX3_noteDrop_33 : decode cX3_noteDrop 33 = .ok (.aload_n 0, 1) := by decide +kernel
theorem dX3_noteDrop_34 : decode cX3_noteDrop 34 = .ok (.getfield 35, 3) := by decide +kernel
theorem dX3_noteDrop_37 : decode cX3_noteDrop 37 = .ok (.iload_n 1, 1) := by decide +kernel
theorem dX3_noteDrop_38 : decode cX3_noteDrop 38 = .ok (.iastore, 1) := by decide +kernel
theorem dX3_noteDrop_39 : decode cX3_noteDrop 39 = .ok (.aload_n 0, 1) := by decide +kernel
theorem dX3_noteDrop_40 : decode cX3_noteDrop 40 = .ok (.dup, 1) := by decide +kernel
theorem dX3_noteDrop_41 : decode cX3_noteDrop 41 = .ok (.getfield 35, 3) := by decide +kernel
theorem dX3_noteDrop_44 : decode cX3_noteDrop 44 = .ok (.iconst 1, 1) := by decide +kernel
theorem dX3_noteDrop_45 : decode cX3_noteDrop 45 = .ok (.iadd, 1) := by decide +kernel
theorem dX3_noteDrop_46 : decode cX3_noteDrop 46 = .ok (.putfield 35, 3) := by decide +kernel
theorem dX3_noteDrop_49 : decode cX3_noteDrop 49 = .ok (.return_, 1) := by decide +kernel
theorem dX3_noteLoad_0 : decode cX3_noteLoad 0 = .ok (.aload_n 0, 1) := by decide +kernel
theorem dX3_noteLoad_1 : decode cX3_noteLoad 1 = .ok (.getfield 38, 3) := by decide +kernel
theorem dX3_noteLoad_4 : decode cX3_noteLoad 4 = .ok (.bipush 40, 2) := by decide +kernel
theorem dX3_noteLoad_6 : decode cX3_noteLoad 6 = .ok (.if_icmp .ge 33, 3) := by decide +kernel
theorem dX3_noteLoad_9 : decode cX3_noteLoad 9 = .ok (.aload_n 0, 1) := by decide +kernel
theorem dX3_noteLoad_10 : decode cX3_noteLoad 10 = .ok (.getfield 18, 3) := by decide +kernel
theorem dX3_noteLoad_13 : decode cX3_noteLoad 13 = .ok (.aload_n 0, 1) := by decide +kernel
theorem dX3_noteLoad_14 : decode cX3_noteLoad 14 = .ok (.getfield 38, 3) := by decide +kernel
theorem dX3_noteLoad_17 : decode cX3_noteLoad 17 = .ok (.iload_n 1, 1) := by decide +kernel
theorem dX3_noteLoad_18 : decode cX3_noteLoad 18 = .ok (.iastore, 1) := by decide +kernel
theorem dX3_noteLoad_19 : decode cX3_noteLoad 19 = .ok (.aload_n 0, 1) := by decide +kernel
theorem dX3_noteLoad_20 : decode cX3_noteLoad 20 = .ok (.getfield 21, 3) := by decide +kernel
theorem dX3_noteLoad_23 : decode cX3_noteLoad 23 = .ok (.aload_n 0, 1) := by decide +kernel
theorem dX3_noteLoad_24 : decode cX3_noteLoad 24 = .ok (.getfield 38, 3) := by decide +kernel
theorem dX3_noteLoad_27 : decode cX3_noteLoad 27 = .ok (.iload_n 2, 1) := by decide +kernel
theorem dX3_noteLoad_28 : decode cX3_noteLoad 28 = .ok (.iastore, 1) := by decide +kernel
theorem dX3_noteLoad_29 : decode cX3_noteLoad 29 = .ok (.aload_n 0, 1) := by decide +kernel
theorem dX3_noteLoad_30 : decode cX3_noteLoad 30 = .ok (.dup, 1) := by decide +kernel
theorem dX3_noteLoad_31 : decode cX3_noteLoad 31 = .ok (.getfield 38, 3) := by decide +kernel
theorem dX3_noteLoad_34 : decode cX3_noteLoad 34 = .ok (.iconst 1, 1) := by decide +kernel
theorem dX3_noteLoad_35 : decode cX3_noteLoad 35 = .ok (.iadd, 1) := by decide +kernel
theorem dX3_noteLoad_36 : decode cX3_noteLoad 36 = .ok (.putfield 38, 3) := by decide +kernel
theorem dX3_noteLoad_39 : decode cX3_noteLoad 39 = .ok (.return_, 1) := by decide +kernel
theorem dX3_fateOf_0 : decode cX3_fateOf 0 = .ok (.aload_n 0, 1) := by decide +kernel
theorem dX3_fateOf_1 : decode cX3_fateOf 1 = .ok (.getfield 24, 3) := by decide +kernel
theorem dX3_fateOf_4 : decode cX3_fateOf 4 = .ok (.ifCond .eq 24, 3) := by decide +kernel
theorem dX3_fateOf_7 : decode cX3_fateOf 7 = .ok (.iload_n 1, 1) := by decide +kernel
theorem dX3_fateOf_8 : decode cX3_fateOf 8 = .ok (.ifCond .lt 20, 3) := by decide +kernel
theorem dX3_fateOf_11 : decode cX3_fateOf 11 = .ok (.iload_n 1, 1) := by decide +kernel
theorem dX3_fateOf_12 : decode cX3_fateOf 12 = .ok (.aload_n 0, 1) := by decide +kernel
theorem dX3_fateOf_13 : decode cX3_fateOf 13 = .ok (.getfield 28, 3) := by decide +kernel
theorem dX3_fateOf_16 : decode cX3_fateOf 16 = .ok (.if_icmp .ge 12, 3) := by decide +kernel
theorem dX3_fateOf_19 : decode cX3_fateOf 19 = .ok (.aload_n 0, 1) := by decide +kernel
theorem dX3_fateOf_20 : decode cX3_fateOf 20 = .ok (.getfield 9, 3) := by decide +kernel
theorem dX3_fateOf_23 : decode cX3_fateOf 23 = .ok (.iload_n 1, 1) := by decide +kernel
theorem dX3_fateOf_24 : decode cX3_fateOf 24 = .ok (.iaload, 1) := by decide +kernel
theorem dX3_fateOf_25 : decode cX3_fateOf 25 = .ok (.goto 4, 3) := by decide +kernel
theorem dX3_fateOf_28 : decode cX3_fateOf 28 = .ok (.iconst (-1), 1) := by decide +kernel
theorem dX3_fateOf_29 : decode cX3_fateOf 29 = .ok (.ireturn, 1) := by decide +kernel
theorem dX3_dropNumbered_0 : decode cX3_dropNumbered 0 = .ok (.aload_n 0, 1) := by decide +kernel
theorem dX3_dropNumbered_1 : decode cX3_dropNumbered 1 = .ok (.getfield 24, 3) := by decide +kernel
theorem dX3_dropNumbered_4 : decode cX3_dropNumbered 4 = .ok (.ifCond .eq 24, 3) := by decide +kernel
theorem dX3_dropNumbered_7 : decode cX3_dropNumbered 7 = .ok (.iload_n 1, 1) := by decide +kernel
theorem dX3_dropNumbered_8 : decode cX3_dropNumbered 8 = .ok (.ifCond .lt 20, 3) := by decide +kernel
theorem dX3_dropNumbered_11 : decode cX3_dropNumbered 11 = .ok (.iload_n 1, 1) := by decide +kernel
theorem dX3_dropNumbered_12 : decode cX3_dropNumbered 12 = .ok (.aload_n 0, 1) := by decide +kernel
theorem dX3_dropNumbered_13 : decode cX3_dropNumbered 13 = .ok (.getfield 35, 3) := by decide +kernel
theorem dX3_dropNumbered_16 : decode cX3_dropNumbered 16 = .ok (.if_icmp .ge 12, 3) := by decide +kernel
theorem dX3_dropNumbered_19 : decode cX3_dropNumbered 19 = .ok (.aload_n 0, 1) := by decide +kernel
theorem dX3_dropNumbered_20 : decode cX3_dropNumbered 20 = .ok (.getfield 15, 3) := by decide +kernel
theorem dX3_dropNumbered_23 : decode cX3_dropNumbered 23 = .ok (.iload_n 1, 1) := by decide +kernel
theorem dX3_dropNumbered_24 : decode cX3_dropNumbered 24 = .ok (.iaload, 1) := by decide +kernel
theorem dX3_dropNumbered_25 : decode cX3_dropNumbered 25 = .ok (.goto 4, 3) := by decide +kernel
theorem dX3_dropNumbered_28 : decode cX3_dropNumbered 28 = .ok (.iconst (-1), 1) := by decide +kernel
theorem dX3_dropNumbered_29 : decode cX3_dropNumbered 29 = .ok (.ireturn, 1) := by decide +kernel
theorem dX3_loadAfter_0 : decode cX3_loadAfter 0 = .ok (.aload_n 0, 1) := by decide +kernel
theorem dX3_loadAfter_1 : decode cX3_loadAfter 1 = .ok (.getfield 24, 3) := by decide +kernel
theorem dX3_loadAfter_4 : decode cX3_loadAfter 4 = .ok (.ifCond .eq 7, 3) := by decide +kernel
theorem dX3_loadAfter_7 : decode cX3_loadAfter 7 = .ok (.iload_n 1, 1) := by decide +kernel
theorem dX3_loadAfter_8 : decode cX3_loadAfter 8 = .ok (.ifCond .ge 5, 3) := by decide +kernel
theorem dX3_loadAfter_11 : decode cX3_loadAfter 11 = .ok (.iconst (-1), 1) := by decide +kernel
theorem dX3_loadAfter_12 : decode cX3_loadAfter 12 = .ok (.ireturn, 1) := by decide +kernel
theorem dX3_loadAfter_13 : decode cX3_loadAfter 13 = .ok (.lconst 0, 1) := by decide +kernel
theorem dX3_loadAfter_14 : decode cX3_loadAfter 14 = .ok (.lstore_n 2, 1) := by decide +kernel
theorem dX3_loadAfter_15 : decode cX3_loadAfter 15 = .ok (.iconst 0, 1) := by decide +kernel
theorem dX3_loadAfter_16 : decode cX3_loadAfter 16 = .ok (.istore 4, 2) := by decide +kernel
theorem dX3_loadAfter_18 : decode cX3_loadAfter 18 = .ok (.iload 4, 2) := by decide +kernel
theorem dX3_loadAfter_20 : decode cX3_loadAfter 20 = .ok (.aload_n 0, 1) := by decide +kernel
theorem dX3_loadAfter_21 : decode cX3_loadAfter 21 = .ok (.getfield 38, 3) := by decide +kernel
theorem dX3_loadAfter_24 : decode cX3_loadAfter 24 = .ok (.if_icmp .ge 50, 3) := by decide +kernel
theorem dX3_loadAfter_27 : decode cX3_loadAfter 27 = .ok (.aload_n 0, 1) := by decide +kernel
theorem dX3_loadAfter_28 : decode cX3_loadAfter 28 = .ok (.getfield 18, 3) := by decide +kernel
theorem dX3_loadAfter_31 : decode cX3_loadAfter 31 = .ok (.iload 4, 2) := by decide +kernel
theorem dX3_loadAfter_33 : decode cX3_loadAfter 33 = .ok (.iaload, 1) := by decide +kernel
theorem dX3_loadAfter_34 : decode cX3_loadAfter 34 = .ok (.iload_n 1, 1) := by decide +kernel
theorem dX3_loadAfter_35 : decode cX3_loadAfter 35 = .ok (.if_icmp .gt 39, 3) := by decide +kernel
theorem dX3_loadAfter_38 : decode cX3_loadAfter 38 = .ok (.lconst 0, 1) := by decide +kernel
theorem dX3_loadAfter_39 : decode cX3_loadAfter 39 = .ok (.aload_n 0, 1) := by decide +kernel
theorem dX3_loadAfter_40 : decode cX3_loadAfter 40 = .ok (.getfield 21, 3) := by decide +kernel
theorem dX3_loadAfter_43 : decode cX3_loadAfter 43 = .ok (.iload 4, 2) := by decide +kernel
theorem dX3_loadAfter_45 : decode cX3_loadAfter 45 = .ok (.iaload, 1) := by decide +kernel
theorem dX3_loadAfter_46 : decode cX3_loadAfter 46 = .ok (.i2l, 1) := by decide +kernel
theorem dX3_loadAfter_47 : decode cX3_loadAfter 47 = .ok (.aload_n 0, 1) := by decide +kernel
theorem dX3_loadAfter_48 : decode cX3_loadAfter 48 = .ok (.getfield 32, 3) := by decide +kernel
theorem dX3_loadAfter_51 : decode cX3_loadAfter 51 = .ok (.i2l, 1) := by decide +kernel
theorem dX3_loadAfter_52 : decode cX3_loadAfter 52 = .ok (.iload_n 1, 1) := by decide +kernel
theorem dX3_loadAfter_53 : decode cX3_loadAfter 53 = .ok (.aload_n 0, 1) := by decide +kernel
theorem dX3_loadAfter_54 : decode cX3_loadAfter 54 = .ok (.getfield 18, 3) := by decide +kernel
theorem dX3_loadAfter_57 : decode cX3_loadAfter 57 = .ok (.iload 4, 2) := by decide +kernel
theorem dX3_loadAfter_59 : decode cX3_loadAfter 59 = .ok (.iaload, 1) := by decide +kernel
theorem dX3_loadAfter_60 : decode cX3_loadAfter 60 = .ok (.isub, 1) := by decide +kernel
theorem dX3_loadAfter_61 : decode cX3_loadAfter 61 = .ok (.i2l, 1) := by decide +kernel
theorem dX3_loadAfter_62 : decode cX3_loadAfter 62 = .ok (.lmul, 1) := by decide +kernel
theorem dX3_loadAfter_63 : decode cX3_loadAfter 63 = .ok (.lsub, 1) := by decide +kernel
theorem dX3_loadAfter_64 : decode cX3_loadAfter 64 = .ok (.invokestatic 41, 3) := by decide +kernel
theorem dX3_loadAfter_67 : decode cX3_loadAfter 67 = .ok (.lstore_n 2, 1) := by decide +kernel
theorem dX3_loadAfter_68 : decode cX3_loadAfter 68 = .ok (.iinc 4 1, 3) := by decide +kernel
theorem dX3_loadAfter_71 : decode cX3_loadAfter 71 = .ok (.goto (-53), 3) := by decide +kernel
theorem dX3_loadAfter_74 : decode cX3_loadAfter 74 = .ok (.lload_n 2, 1) := by decide +kernel
theorem dX3_loadAfter_75 : decode cX3_loadAfter 75 = .ok (.l2i, 1) := by decide +kernel
theorem dX3_loadAfter_76 : decode cX3_loadAfter 76 = .ok (.ireturn, 1) := by decide +kernel
theorem dX3_greatestLoad_0 : decode cX3_greatestLoad 0 = .ok (.aload_n 0, 1) := by decide +kernel
theorem dX3_greatestLoad_1 : decode cX3_greatestLoad 1 = .ok (.getfield 24, 3) := by decide +kernel
theorem dX3_greatestLoad_4 : decode cX3_greatestLoad 4 = .ok (.ifCond .ne 5, 3) := by decide +kernel
theorem dX3_greatestLoad_7 : decode cX3_greatestLoad 7 = .ok (.iconst (-1), 1) := by decide +kernel
theorem dX3_greatestLoad_8 : decode cX3_greatestLoad 8 = .ok (.ireturn, 1) := by decide +kernel
theorem dX3_greatestLoad_9 : decode cX3_greatestLoad 9 = .ok (.iconst 0, 1) := by decide +kernel
theorem dX3_greatestLoad_10 : decode cX3_greatestLoad 10 = .ok (.istore_n 1, 1) := by decide +kernel
theorem dX3_greatestLoad_11 : decode cX3_greatestLoad 11 = .ok (.iconst 0, 1) := by decide +kernel
theorem dX3_greatestLoad_12 : decode cX3_greatestLoad 12 = .ok (.istore_n 2, 1) := by decide +kernel
theorem dX3_greatestLoad_13 : decode cX3_greatestLoad 13 = .ok (.iload_n 2, 1) := by decide +kernel
theorem dX3_greatestLoad_14 : decode cX3_greatestLoad 14 = .ok (.aload_n 0, 1) := by decide +kernel
theorem dX3_greatestLoad_15 : decode cX3_greatestLoad 15 = .ok (.getfield 38, 3) := by decide +kernel
theorem dX3_greatestLoad_18 : decode cX3_greatestLoad 18 = .ok (.if_icmp .ge 20, 3) := by decide +kernel
theorem dX3_greatestLoad_21 : decode cX3_greatestLoad 21 = .ok (.iload_n 1, 1) := by decide +kernel
theorem dX3_greatestLoad_22 : decode cX3_greatestLoad 22 = .ok (.aload_n 0, 1) := by decide +kernel
theorem dX3_greatestLoad_23 : decode cX3_greatestLoad 23 = .ok (.getfield 21, 3) := by decide +kernel
theorem dX3_greatestLoad_26 : decode cX3_greatestLoad 26 = .ok (.iload_n 2, 1) := by decide +kernel
theorem dX3_greatestLoad_27 : decode cX3_greatestLoad 27 = .ok (.iaload, 1) := by decide +kernel
theorem dX3_greatestLoad_28 : decode cX3_greatestLoad 28 = .ok (.invokestatic 47, 3) := by decide +kernel
theorem dX3_greatestLoad_31 : decode cX3_greatestLoad 31 = .ok (.istore_n 1, 1) := by decide +kernel
theorem dX3_greatestLoad_32 : decode cX3_greatestLoad 32 = .ok (.iinc 2 1, 3) := by decide +kernel
theorem dX3_greatestLoad_35 : decode cX3_greatestLoad 35 = .ok (.goto (-22), 3) := by decide +kernel
theorem dX3_greatestLoad_38 : decode cX3_greatestLoad 38 = .ok (.iload_n 1, 1) := by decide +kernel
theorem dX3_greatestLoad_39 : decode cX3_greatestLoad 39 = .ok (.ireturn, 1) := by decide +kernel
theorem dX4_init_0 : decode cX4_init 0 = .ok (.aload_n 0, 1) := by decide +kernel
theorem dX4_init_1 : decode cX4_init 1 = .ok (.invokespecial 3, 3) := by decide +kernel
theorem dX4_init_4 : decode cX4_init 4 = .ok (.aload_n 0, 1) := by decide +kernel
theorem dX4_init_5 : decode cX4_init 5 = .ok (.bipush 40, 2) := by decide +kernel
theorem dX4_init_7 : decode cX4_init 7 = .ok (.newarray .int, 2) := by decide +kernel
theorem dX4_init_9 : decode cX4_init 9 = .ok (.putfield 9, 3) := by decide +kernel
theorem dX4_init_12 : decode cX4_init 12 = .ok (.aload_n 0, 1) := by decide +kernel
theorem dX4_init_13 : decode cX4_init 13 = .ok (.bipush 40, 2) := by decide +kernel
theorem dX4_init_15 : decode cX4_init 15 = .ok (.newarray .int, 2) := by decide +kernel
theorem dX4_init_17 : decode cX4_init 17 = .ok (.putfield 15, 3) := by decide +kernel
theorem dX4_init_20 : decode cX4_init 20 = .ok (.aload_n 0, 1) := by decide +kernel
theorem dX4_init_21 : decode cX4_init 21 = .ok (.bipush 40, 2) := by decide +kernel
theorem dX4_init_23 : decode cX4_init 23 = .ok (.newarray .int, 2) := by decide +kernel
theorem dX4_init_25 : decode cX4_init 25 = .ok (.putfield 18, 3) := by decide +kernel
theorem dX4_init_28 : decode cX4_init 28 = .ok (.aload_n 0, 1) := by decide +kernel
theorem dX4_init_29 : decode cX4_init 29 = .ok (.getstatic 21, 3) := by decide +kernel
theorem dX4_init_32 : decode cX4_init 32 = .ok (.invokevirtual 24, 3) := by decide +kernel
theorem dX4_init_35 : decode cX4_init 35 = .ok (.checkcast 25, 3) := by decide +kernel
theorem dX4_init_38 : decode cX4_init 38 = .ok (.putfield 29, 3) := by decide +kernel
theorem dX4_init_41 : decode cX4_init 41 = .ok (.return_, 1) := by decide +kernel
theorem dX4_isFull_0 : decode cX4_isFull 0 = .ok (.aload_n 0, 1) := by decide +kernel
theorem dX4_isFull_1 : decode cX4_isFull 1 = .ok (.getfield 32, 3) := by decide +kernel
theorem dX4_isFull_4 : decode cX4_isFull 4 = .ok (.bipush 40, 2) := by decide +kernel
theorem dX4_isFull_6 : decode cX4_isFull 6 = .ok (.if_icmp .lt 7, 3) := by decide +kernel
theorem dX4_isFull_9 : decode cX4_isFull 9 = .ok (.iconst 1, 1) := by decide +kernel
theorem dX4_isFull_10 : decode cX4_isFull 10 = .ok (.goto 4, 3) := by decide +kernel
theorem dX4_isFull_13 : decode cX4_isFull 13 = .ok (.iconst 0, 1) := by decide +kernel
theorem dX4_isFull_14 : decode cX4_isFull 14 = .ok (.ireturn, 1) := by decide +kernel
theorem dX4_insert_0 : decode cX4_insert 0 = .ok (.aload_n 0, 1) := by decide +kernel
theorem dX4_insert_1 : decode cX4_insert 1 = .ok (.invokevirtual 36, 3) := by decide +kernel
theorem dX4_insert_4 : decode cX4_insert 4 = .ok (.ifCond .eq 5, 3) := by decide +kernel
theorem dX4_insert_7 : decode cX4_insert 7 = .ok (.iconst (-1), 1) := by decide +kernel
theorem dX4_insert_8 : decode cX4_insert 8 = .ok (.ireturn, 1) := by decide +kernel
theorem dX4_insert_9 : decode cX4_insert 9 = .ok (.aload_n 0, 1) := by decide +kernel
theorem dX4_insert_10 : decode cX4_insert 10 = .ok (.getfield 32, 3) := by decide +kernel
theorem dX4_insert_13 : decode cX4_insert 13 = .ok (.istore 4, 2) := by decide +kernel
theorem dX4_insert_15 : decode cX4_insert 15 = .ok (.iload 4, 2) := by decide +kernel
theorem dX4_insert_17 : decode cX4_insert 17 = .ok (.ifCond .le 22, 3) := by decide +kernel
theorem dX4_insert_20 : decode cX4_insert 20 = .ok (.aload_n 0, 1) := by decide +kernel
theorem dX4_insert_21 : decode cX4_insert 21 = .ok (.getfield 9, 3) := by decide +kernel
theorem dX4_insert_24 : decode cX4_insert 24 = .ok (.iload 4, 2) := by decide +kernel
theorem dX4_insert_26 : decode cX4_insert 26 = .ok (.iconst 1, 1) := by decide +kernel
theorem dX4_insert_27 : decode cX4_insert 27 = .ok (.isub, 1) := by decide +kernel
theorem dX4_insert_28 : decode cX4_insert 28 = .ok (.iaload, 1) := by decide +kernel
theorem dX4_insert_29 : decode cX4_insert 29 = .ok (.iload_n 1, 1) := by decide +kernel
theorem dX4_insert_30 : decode cX4_insert 30 = .ok (.if_icmp .le 9, 3) := by decide +kernel
theorem dX4_insert_33 : decode cX4_insert 33 = .ok (.iinc 4 (-1), 3) := by decide +kernel
theorem dX4_insert_36 : decode cX4_insert 36 = .ok (.goto (-21), 3) := by decide +kernel
theorem dX4_insert_39 : decode cX4_insert 39 = .ok (.aload_n 0, 1) := by decide +kernel
theorem dX4_insert_40 : decode cX4_insert 40 = .ok (.iload 4, 2) := by decide +kernel
theorem dX4_insert_42 : decode cX4_insert 42 = .ok (.iload 4, 2) := by decide +kernel
theorem dX4_insert_44 : decode cX4_insert 44 = .ok (.iconst 1, 1) := by decide +kernel
theorem dX4_insert_45 : decode cX4_insert 45 = .ok (.iadd, 1) := by decide +kernel
theorem dX4_insert_46 : decode cX4_insert 46 = .ok (.invokevirtual 40, 3) := by decide +kernel
theorem dX4_insert_49 : decode cX4_insert 49 = .ok (.aload_n 0, 1) := by decide +kernel
theorem dX4_insert_50 : decode cX4_insert 50 = .ok (.getfield 9, 3) := by decide +kernel
theorem dX4_insert_53 : decode cX4_insert 53 = .ok (.iload 4, 2) := by decide +kernel
theorem dX4_insert_55 : decode cX4_insert 55 = .ok (.iload_n 1, 1) := by decide +kernel
theorem dX4_insert_56 : decode cX4_insert 56 = .ok (.iastore, 1) := by decide +kernel
theorem dX4_insert_57 : decode cX4_insert 57 = .ok (.aload_n 0, 1) := by decide +kernel
theorem dX4_insert_58 : decode cX4_insert 58 = .ok (.getfield 15, 3) := by decide +kernel
theorem dX4_insert_61 : decode cX4_insert 61 = .ok (.iload 4, 2) := by decide +kernel
theorem dX4_insert_63 : decode cX4_insert 63 = .ok (.iload_n 2, 1) := by decide +kernel
theorem dX4_insert_64 : decode cX4_insert 64 = .ok (.iastore, 1) := by decide +kernel
theorem dX4_insert_65 : decode cX4_insert 65 = .ok (.aload_n 0, 1) := by decide +kernel
theorem dX4_insert_66 : decode cX4_insert 66 = .ok (.getfield 18, 3) := by decide +kernel
theorem dX4_insert_69 : decode cX4_insert 69 = .ok (.iload 4, 2) := by decide +kernel
theorem dX4_insert_71 : decode cX4_insert 71 = .ok (.iload_n 3, 1) := by decide +kernel
theorem dX4_insert_72 : decode cX4_insert 72 = .ok (.iastore, 1) := by decide +kernel
theorem dX4_insert_73 : decode cX4_insert 73 = .ok (.aload_n 0, 1) := by decide +kernel
theorem dX4_insert_74 : decode cX4_insert 74 = .ok (.dup, 1) := by decide +kernel
theorem dX4_insert_75 : decode cX4_insert 75 = .ok (.getfield 32, 3) := by decide +kernel
theorem dX4_insert_78 : decode cX4_insert 78 = .ok (.iconst 1, 1) := by decide +kernel
theorem dX4_insert_79 : decode cX4_insert 79 = .ok (.iadd, 1) := by decide +kernel
theorem dX4_insert_80 : decode cX4_insert 80 = .ok (.putfield 32, 3) := by decide +kernel
theorem dX4_insert_83 : decode cX4_insert 83 = .ok (.iload 4, 2) := by decide +kernel
theorem dX4_insert_85 : decode cX4_insert 85 = .ok (.ireturn, 1) := by decide +kernel
theorem dX4_delete_0 : decode cX4_delete 0 = .ok (.iload_n 1, 1) := by decide +kernel
theorem dX4_delete_1 : decode cX4_delete 1 = .ok (.ifCond .lt 29, 3) := by decide +kernel
theorem dX4_delete_4 : decode cX4_delete 4 = .ok (.iload_n 1, 1) := by decide +kernel
theorem dX4_delete_5 : decode cX4_delete 5 = .ok (.aload_n 0, 1) := by decide +kernel
theorem dX4_delete_6 : decode cX4_delete 6 = .ok (.getfield 32, 3) := by decide +kernel
theorem dX4_delete_9 : decode cX4_delete 9 = .ok (.if_icmp .ge 21, 3) := by decide +kernel
theorem dX4_delete_12 : decode cX4_delete 12 = .ok (.aload_n 0, 1) := by decide +kernel
theorem dX4_delete_13 : decode cX4_delete 13 = .ok (.iload_n 1, 1) := by decide +kernel
theorem dX4_delete_14 : decode cX4_delete 14 = .ok (.iconst 1, 1) := by decide +kernel
theorem dX4_delete_15 : decode cX4_delete 15 = .ok (.iadd, 1) := by decide +kernel
theorem dX4_delete_16 : decode cX4_delete 16 = .ok (.iload_n 1, 1) := by decide +kernel
theorem dX4_delete_17 : decode cX4_delete 17 = .ok (.invokevirtual 40, 3) := by decide +kernel
theorem dX4_delete_20 : decode cX4_delete 20 = .ok (.aload_n 0, 1) := by decide +kernel
theorem dX4_delete_21 : decode cX4_delete 21 = .ok (.dup, 1) := by decide +kernel
theorem dX4_delete_22 : decode cX4_delete 22 = .ok (.getfield 32, 3) := by decide +kernel
theorem dX4_delete_25 : decode cX4_delete 25 = .ok (.iconst 1, 1) := by decide +kernel
theorem dX4_delete_26 : decode cX4_delete 26 = .ok (.isub, 1) := by decide +kernel
theorem dX4_delete_27 : decode cX4_delete 27 = .ok (.putfield 32, 3) := by decide +kernel
theorem dX4_delete_30 : decode cX4_delete 30 = .ok (.return_, 1) := by decide +kernel
theorem dX4_shift_0 : decode cX4_shift 0 = .ok (.aload_n 0, 1) := by decide +kernel
theorem dX4_shift_1 : decode cX4_shift 1 = .ok (.getfield 9, 3) := by decide +kernel
theorem dX4_shift_4 : decode cX4_shift 4 = .ok (.iload_n 1, 1) := by decide +kernel
theorem dX4_shift_5 : decode cX4_shift 5 = .ok (.aload_n 0, 1) := by decide +kernel
theorem dX4_shift_6 : decode cX4_shift 6 = .ok (.getfield 9, 3) := by decide +kernel
theorem dX4_shift_9 : decode cX4_shift 9 = .ok (.iload_n 2, 1) := by decide +kernel
theorem dX4_shift_10 : decode cX4_shift 10 = .ok (.aload_n 0, 1) := by decide +kernel
theorem dX4_shift_11 : decode cX4_shift 11 = .ok (.getfield 32, 3) := by decide +kernel
theorem dX4_shift_14 : decode cX4_shift 14 = .ok (.iload_n 1, 1) := by decide +kernel
theorem dX4_shift_15 : decode cX4_shift 15 = .ok (.isub, 1) := by decide +kernel
theorem dX4_shift_16 : decode cX4_shift 16 = .ok (.invokestatic 44, 3) := by decide +kernel
theorem dX4_shift_19 : decode cX4_shift 19 = .ok (.aload_n 0, 1) := by decide +kernel
theorem dX4_shift_20 : decode cX4_shift 20 = .ok (.getfield 15, 3) := by decide +kernel
theorem dX4_shift_23 : decode cX4_shift 23 = .ok (.iload_n 1, 1) := by decide +kernel
theorem dX4_shift_24 : decode cX4_shift 24 = .ok (.aload_n 0, 1) := by decide +kernel
theorem dX4_shift_25 : decode cX4_shift 25 = .ok (.getfield 15, 3) := by decide +kernel
theorem dX4_shift_28 : decode cX4_shift 28 = .ok (.iload_n 2, 1) := by decide +kernel
theorem dX4_shift_29 : decode cX4_shift 29 = .ok (.aload_n 0, 1) := by decide +kernel
theorem dX4_shift_30 : decode cX4_shift 30 = .ok (.getfield 32, 3) := by decide +kernel
theorem dX4_shift_33 : decode cX4_shift 33 = .ok (.iload_n 1, 1) := by decide +kernel
theorem dX4_shift_34 : decode cX4_shift 34 = .ok (.isub, 1) := by decide +kernel
theorem dX4_shift_35 : decode cX4_shift 35 = .ok (.invokestatic 44, 3) := by decide +kernel
theorem dX4_shift_38 : decode cX4_shift 38 = .ok (.aload_n 0, 1) := by decide +kernel
theorem dX4_shift_39 : decode cX4_shift 39 = .ok (.getfield 18, 3) := by decide +kernel
theorem dX4_shift_42 : decode cX4_shift 42 = .ok (.iload_n 1, 1) := by decide +kernel
theorem dX4_shift_43 : decode cX4_shift 43 = .ok (.aload_n 0, 1) := by decide +kernel
theorem dX4_shift_44 : decode cX4_shift 44 = .ok (.getfield 18, 3) := by decide +kernel
theorem dX4_shift_47 : decode cX4_shift 47 = .ok (.iload_n 2, 1) := by decide +kernel
theorem dX4_shift_48 : decode cX4_shift 48 = .ok (.aload_n 0, 1) := by decide +kernel
theorem dX4_shift_49 : decode cX4_shift 49 = .ok (.getfield 32, 3) := by decide +kernel
theorem dX4_shift_52 : decode cX4_shift 52 = .ok (.iload_n 1, 1) := by decide +kernel
theorem dX4_shift_53 : decode cX4_shift 53 = .ok (.isub, 1) := by decide +kernel
theorem dX4_shift_54 : decode cX4_shift 54 = .ok (.invokestatic 44, 3) := by decide +kernel
theorem dX4_shift_57 : decode cX4_shift 57 = .ok (.return_, 1) := by decide +kernel
theorem dX4_set_0 : decode cX4_set 0 = .ok (.iload_n 1, 1) := by decide +kernel
theorem dX4_set_1 : decode cX4_set 1 = .ok (.iload_n 2, 1) := by decide +kernel
theorem dX4_set_2 : decode cX4_set 2 = .ok (.invokestatic 50, 3) := by decide +kernel
theorem dX4_set_5 : decode cX4_set 5 = .ok (.istore_n 3, 1) := by decide +kernel
theorem dX4_set_6 : decode cX4_set 6 = .ok (.iload_n 3, 1) := by decide +kernel
theorem dX4_set_7 : decode cX4_set 7 = .ok (.ifCond .eq 10, 3) := by decide +kernel
theorem dX4_set_10 : decode cX4_set 10 = .ok (.aload_n 0, 1) := by decide +kernel
theorem dX4_set_11 : decode cX4_set 11 = .ok (.getfield 29, 3) := by decide +kernel
theorem dX4_set_14 : decode cX4_set 14 = .ok (.iload_n 1, 1) := by decide +kernel
theorem dX4_set_15 : decode cX4_set 15 = .ok (.iload_n 2, 1) := by decide +kernel
theorem dX4_set_16 : decode cX4_set 16 = .ok (.iastore, 1) := by decide +kernel
theorem dX4_set_17 : decode cX4_set 17 = .ok (.iload_n 3, 1) := by decide +kernel
theorem dX4_set_18 : decode cX4_set 18 = .ok (.ireturn, 1) := by decide +kernel
theorem dX4_flowSet_0 : decode cX4_flowSet 0 = .ok (.iconst 0, 1) := by decide +kernel
theorem dX4_flowSet_1 : decode cX4_flowSet 1 = .ok (.istore_n 1, 1) := by decide +kernel
theorem dX4_flowSet_2 : decode cX4_flowSet 2 = .ok (.iconst 0, 1) := by decide +kernel
theorem dX4_flowSet_3 : decode cX4_flowSet 3 = .ok (.istore_n 2, 1) := by decide +kernel
theorem dX4_flowSet_4 : decode cX4_flowSet 4 = .ok (.iload_n 2, 1) := by decide +kernel
theorem dX4_flowSet_5 : decode cX4_flowSet 5 = .ok (.aload_n 0, 1) := by decide +kernel
theorem dX4_flowSet_6 : decode cX4_flowSet 6 = .ok (.getfield 32, 3) := by decide +kernel
theorem dX4_flowSet_9 : decode cX4_flowSet 9 = .ok (.if_icmp .ge 20, 3) := by decide +kernel
theorem dX4_flowSet_12 : decode cX4_flowSet 12 = .ok (.iload_n 1, 1) := by decide +kernel
theorem dX4_flowSet_13 : decode cX4_flowSet 13 = .ok (.iconst 1, 1) := by decide +kernel
theorem dX4_flowSet_14 : decode cX4_flowSet 14 = .ok (.aload_n 0, 1) := by decide +kernel
theorem dX4_flowSet_15 : decode cX4_flowSet 15 = .ok (.getfield 15, 3) := by decide +kernel
theorem dX4_flowSet_18 : decode cX4_flowSet 18 = .ok (.iload_n 2, 1) := by decide +kernel
theorem dX4_flowSet_19 : decode cX4_flowSet 19 = .ok (.iaload, 1) := by decide +kernel
theorem dX4_flowSet_20 : decode cX4_flowSet 20 = .ok (.ishl, 1) := by decide +kernel
theorem dX4_flowSet_21 : decode cX4_flowSet 21 = .ok (.ior, 1) := by decide +kernel
theorem dX4_flowSet_22 : decode cX4_flowSet 22 = .ok (.istore_n 1, 1) := by decide +kernel
theorem dX4_flowSet_23 : decode cX4_flowSet 23 = .ok (.iinc 2 1, 3) := by decide +kernel
theorem dX4_flowSet_26 : decode cX4_flowSet 26 = .ok (.goto (-22), 3) := by decide +kernel
theorem dX4_flowSet_29 : decode cX4_flowSet 29 = .ok (.iload_n 1, 1) := by decide +kernel
theorem dX4_flowSet_30 : decode cX4_flowSet 30 = .ok (.ireturn, 1) := by decide +kernel
theorem dX4_copyFrom_0 : decode cX4_copyFrom 0 = .ok (.aload_n 0, 1) := by decide +kernel
theorem dX4_copyFrom_1 : decode cX4_copyFrom 1 = .ok (.aload_n 1, 1) := by decide +kernel
theorem dX4_copyFrom_2 : decode cX4_copyFrom 2 = .ok (.getfield 32, 3) := by decide +kernel
theorem dX4_copyFrom_5 : decode cX4_copyFrom 5 = .ok (.putfield 32, 3) := by decide +kernel
theorem dX4_copyFrom_8 : decode cX4_copyFrom 8 = .ok (.aload_n 1, 1) := by decide +kernel
theorem dX4_copyFrom_9 : decode cX4_copyFrom 9 = .ok (.getfield 9, 3) := by decide +kernel
theorem dX4_copyFrom_12 : decode cX4_copyFrom 12 = .ok (.iconst 0, 1) := by decide +kernel
theorem dX4_copyFrom_13 : decode cX4_copyFrom 13 = .ok (.aload_n 0, 1) := by decide +kernel
theorem dX4_copyFrom_14 : decode cX4_copyFrom 14 = .ok (.getfield 9, 3) := by decide +kernel
theorem dX4_copyFrom_17 : decode cX4_copyFrom 17 = .ok (.iconst 0, 1) := by decide +kernel
theorem dX4_copyFrom_18 : decode cX4_copyFrom 18 = .ok (.bipush 40, 2) := by decide +kernel
theorem dX4_copyFrom_20 : decode cX4_copyFrom 20 = .ok (.invokestatic 44, 3) := by decide +kernel
theorem dX4_copyFrom_23 : decode cX4_copyFrom 23 = .ok (.aload_n 1, 1) := by decide +kernel
theorem dX4_copyFrom_24 : decode cX4_copyFrom 24 = .ok (.getfield 15, 3) := by decide +kernel
theorem dX4_copyFrom_27 : decode cX4_copyFrom 27 = .ok (.iconst 0, 1) := by decide +kernel
theorem dX4_copyFrom_28 : decode cX4_copyFrom 28 = .ok (.aload_n 0, 1) := by decide +kernel
theorem dX4_copyFrom_29 : decode cX4_copyFrom 29 = .ok (.getfield 15, 3) := by decide +kernel
theorem dX4_copyFrom_32 : decode cX4_copyFrom 32 = .ok (.iconst 0, 1) := by decide +kernel
theorem dX4_copyFrom_33 : decode cX4_copyFrom 33 = .ok (.bipush 40, 2) := by decide +kernel
theorem dX4_copyFrom_35 : decode cX4_copyFrom 35 = .ok (.invokestatic 44, 3) := by decide +kernel
theorem dX4_copyFrom_38 : decode cX4_copyFrom 38 = .ok (.aload_n 1, 1) := by decide +kernel
theorem dX4_copyFrom_39 : decode cX4_copyFrom 39 = .ok (.getfield 18, 3) := by decide +kernel
theorem dX4_copyFrom_42 : decode cX4_copyFrom 42 = .ok (.iconst 0, 1) := by decide +kernel
theorem dX4_copyFrom_43 : decode cX4_copyFrom 43 = .ok (.aload_n 0, 1) := by decide +kernel
theorem dX4_copyFrom_44 : decode cX4_copyFrom 44 = .ok (.getfield 18, 3) := by decide +kernel
theorem dX4_copyFrom_47 : decode cX4_copyFrom 47 = .ok (.iconst 0, 1) := by decide +kernel
theorem dX4_copyFrom_48 : decode cX4_copyFrom 48 = .ok (.bipush 40, 2) := by decide +kernel
theorem dX4_copyFrom_50 : decode cX4_copyFrom 50 = .ok (.invokestatic 44, 3) := by decide +kernel
theorem dX4_copyFrom_53 : decode cX4_copyFrom 53 = .ok (.aload_n 1, 1) := by decide +kernel
theorem dX4_copyFrom_54 : decode cX4_copyFrom 54 = .ok (.getfield 29, 3) := by decide +kernel
theorem dX4_copyFrom_57 : decode cX4_copyFrom 57 = .ok (.iconst 0, 1) := by decide +kernel
theorem dX4_copyFrom_58 : decode cX4_copyFrom 58 = .ok (.aload_n 0, 1) := by decide +kernel
theorem dX4_copyFrom_59 : decode cX4_copyFrom 59 = .ok (.getfield 29, 3) := by decide +kernel
theorem dX4_copyFrom_62 : decode cX4_copyFrom 62 = .ok (.iconst 0, 1) := by decide +kernel
theorem dX4_copyFrom_63 : decode cX4_copyFrom 63 = .ok (.bipush 14, 2) := by decide +kernel
theorem dX4_copyFrom_65 : decode cX4_copyFrom 65 = .ok (.invokestatic 44, 3) := by decide +kernel
theorem dX4_copyFrom_68 : decode cX4_copyFrom 68 = .ok (.return_, 1) := by decide +kernel
theorem dX5_init_0 : decode cX5_init 0 = .ok (.aload_n 0, 1) := by decide +kernel
theorem dX5_init_1 : decode cX5_init 1 = .ok (.invokespecial 3, 3) := by decide +kernel
theorem dX5_init_4 : decode cX5_init 4 = .ok (.aload_n 0, 1) := by decide +kernel
theorem dX5_init_5 : decode cX5_init 5 = .ok (.new 9, 3) := by decide +kernel
theorem dX5_init_8 : decode cX5_init 8 = .ok (.dup, 1) := by decide +kernel
theorem dX5_init_9 : decode cX5_init 9 = .ok (.invokespecial 11, 3) := by decide +kernel
theorem dX5_init_12 : decode cX5_init 12 = .ok (.putfield 12, 3) := by decide +kernel
theorem dX5_init_15 : decode cX5_init 15 = .ok (.aload_n 0, 1) := by decide +kernel
theorem dX5_init_16 : decode cX5_init 16 = .ok (.new 18, 3) := by decide +kernel
theorem dX5_init_19 : decode cX5_init 19 = .ok (.dup, 1) := by decide +kernel
theorem dX5_init_20 : decode cX5_init 20 = .ok (.invokespecial 20, 3) := by decide +kernel
theorem dX5_init_23 : decode cX5_init 23 = .ok (.putfield 21, 3) := by decide +kernel
theorem dX5_init_26 : decode cX5_init 26 = .ok (.aload_n 0, 1) := by decide +kernel
theorem dX5_init_27 : decode cX5_init 27 = .ok (.bipush 6, 2) := by decide +kernel
theorem dX5_init_29 : decode cX5_init 29 = .ok (.newarray .int, 2) := by decide +kernel
theorem dX5_init_31 : decode cX5_init 31 = .ok (.putfield 25, 3) := by decide +kernel
theorem dX5_init_34 : decode cX5_init 34 = .ok (.aload_n 0, 1) := by decide +kernel
theorem dX5_init_35 : decode cX5_init 35 = .ok (.aload_n 1, 1) := by decide +kernel
theorem dX5_init_36 : decode cX5_init 36 = .ok (.putfield 29, 3) := by decide +kernel
theorem dX5_init_39 : decode cX5_init 39 = .ok (.return_, 1) := by decide +kernel
theorem dX5_play_0 : decode cX5_play 0 = .ok (.aload_n 0, 1) := by decide +kernel
theorem dX5_play_1 : decode cX5_play 1 = .ok (.iload_n 2, 1) := by decide +kernel
theorem dX5_play_2 : decode cX5_play 2 = .ok (.putfield 33, 3) := by decide +kernel
theorem dX5_play_5 : decode cX5_play 5 = .ok (.aload_n 0, 1) := by decide +kernel
theorem dX5_play_6 : decode cX5_play 6 = .ok (.sipush 1001, 3) := by decide +kernel
theorem dX5_play_9 : decode cX5_play 9 = .ok (.putfield 37, 3) := by decide +kernel
theorem dX5_play_12 : decode cX5_play 12 = .ok (.aload_n 0, 1) := by decide +kernel
theorem dX5_play_13 : decode cX5_play 13 = .ok (.aload_n 0, 1) := by decide +kernel
theorem dX5_play_14 : decode cX5_play 14 = .ok (.getfield 29, 3) := by decide +kernel
theorem dX5_play_17 : decode cX5_play 17 = .ok (.getfield 40, 3) := by decide +kernel
theorem dX5_play_20 : decode cX5_play 20 = .ok (.iconst 1, 1) := by decide +kernel
theorem dX5_play_21 : decode cX5_play 21 = .ok (.iaload, 1) := by decide +kernel
theorem dX5_play_22 : decode cX5_play 22 = .ok (.putfield 45, 3) := by decide +kernel
theorem dX5_play_25 : decode cX5_play 25 = .ok (.aload_n 0, 1) := by decide +kernel
theorem dX5_play_26 : decode cX5_play 26 = .ok (.iconst 0, 1) := by decide +kernel
theorem dX5_play_27 : decode cX5_play 27 = .ok (.putfield 48, 3) := by decide +kernel
theorem dX5_play_30 : decode cX5_play 30 = .ok (.aload_n 0, 1) := by decide +kernel
theorem dX5_play_31 : decode cX5_play 31 = .ok (.iconst 5, 1) := by decide +kernel
theorem dX5_play_32 : decode cX5_play 32 = .ok (.putfield 51, 3) := by decide +kernel
theorem dX5_play_35 : decode cX5_play 35 = .ok (.aload_n 0, 1) := by decide +kernel
theorem dX5_play_36 : decode cX5_play 36 = .ok (.getfield 21, 3) := by decide +kernel
theorem dX5_play_39 : decode cX5_play 39 = .ok (.invokevirtual 54, 3) := by decide +kernel
theorem dX5_play_42 : decode cX5_play 42 = .ok (.aload_n 0, 1) := by decide +kernel
theorem dX5_play_43 : decode cX5_play 43 = .ok (.getfield 12, 3) := by decide +kernel
theorem dX5_play_46 : decode cX5_play 46 = .ok (.aload_n 0, 1) := by decide +kernel
theorem dX5_play_47 : decode cX5_play 47 = .ok (.getfield 29, 3) := by decide +kernel
theorem dX5_play_50 : decode cX5_play 50 = .ok (.getfield 57, 3) := by decide +kernel
theorem dX5_play_53 : decode cX5_play 53 = .ok (.aload_n 0, 1) := by decide +kernel
theorem dX5_play_54 : decode cX5_play 54 = .ok (.getfield 45, 3) := by decide +kernel
theorem dX5_play_57 : decode cX5_play 57 = .ok (.invokevirtual 60, 3) := by decide +kernel
theorem dX5_play_60 : decode cX5_play 60 = .ok (.iconst 0, 1) := by decide +kernel
theorem dX5_play_61 : decode cX5_play 61 = .ok (.istore 4, 2) := by decide +kernel
theorem dX5_play_63 : decode cX5_play 63 = .ok (.iload 4, 2) := by decide +kernel
theorem dX5_play_65 : decode cX5_play 65 = .ok (.aload_n 0, 1) := by decide +kernel
theorem dX5_play_66 : decode cX5_play 66 = .ok (.getfield 29, 3) := by decide +kernel
theorem dX5_play_69 : decode cX5_play 69 = .ok (.getfield 57, 3) := by decide +kernel
theorem dX5_play_72 : decode cX5_play 72 = .ok (.if_icmp .ge 97, 3) := by decide +kernel
theorem dX5_play_75 : decode cX5_play 75 = .ok (.iload_n 1, 1) := by decide +kernel
theorem dX5_play_76 : decode cX5_play 76 = .ok (.aload_n 0, 1) := by decide +kernel
theorem dX5_play_77 : decode cX5_play 77 = .ok (.getfield 29, 3) := by decide +kernel
theorem dX5_play_80 : decode cX5_play 80 = .ok (.getfield 64, 3) := by decide +kernel
theorem dX5_play_83 : decode cX5_play 83 = .ok (.iload 4, 2) := by decide +kernel
theorem dX5_play_85 : decode cX5_play 85 = .ok (.iaload, 1) := by decide +kernel
theorem dX5_play_86 : decode cX5_play 86 = .ok (.invokestatic 67, 3) := by decide +kernel
theorem dX5_play_89 : decode cX5_play 89 = .ok (.ifCond .ne 18, 3) := by decide +kernel
theorem dX5_play_92 : decode cX5_play 92 = .ok (.aload_n 0, 1) := by decide +kernel
theorem dX5_play_93 : decode cX5_play 93 = .ok (.getfield 12, 3) := by decide +kernel
theorem dX5_play_96 : decode cX5_play 96 = .ok (.getfield 71, 3) := by decide +kernel
theorem dX5_play_99 : decode cX5_play 99 = .ok (.iload 4, 2) := by decide +kernel
theorem dX5_play_101 : decode cX5_play 101 = .ok (.bipush (-3), 2) := by decide +kernel
theorem dX5_play_103 : decode cX5_play 103 = .ok (.iastore, 1) := by decide +kernel
theorem dX5_play_104 : decode cX5_play 104 = .ok (.goto 44, 3) := by decide +kernel
theorem dX5_play_107 : decode cX5_play 107 = .ok (.aload_n 0, 1) := by decide +kernel
theorem dX5_play_108 : decode cX5_play 108 = .ok (.iload 4, 2) := by decide +kernel
theorem dX5_play_110 : decode cX5_play 110 = .ok (.iload_n 3, 1) := by decide +kernel
theorem dX5_play_111 : decode cX5_play 111 = .ok (.invokevirtual 74, 3) := by decide +kernel
theorem dX5_play_114 : decode cX5_play 114 = .ok (.ifCond .eq 25, 3) := by decide +kernel
theorem dX5_play_117 : decode cX5_play 117 = .ok (.aload_n 0, 1) := by decide +kernel
theorem dX5_play_118 : decode cX5_play 118 = .ok (.getfield 21, 3) := by decide +kernel
theorem dX5_play_121 : decode cX5_play 121 = .ok (.iload 4, 2) := by decide +kernel
theorem dX5_play_123 : decode cX5_play 123 = .ok (.aload_n 0, 1) := by decide +kernel
theorem dX5_play_124 : decode cX5_play 124 = .ok (.getfield 29, 3) := by decide +kernel
theorem dX5_play_127 : decode cX5_play 127 = .ok (.getfield 77, 3) := by decide +kernel
theorem dX5_play_130 : decode cX5_play 130 = .ok (.iload 4, 2) := by decide +kernel
theorem dX5_play_132 : decode cX5_play 132 = .ok (.iaload, 1) := by decide +kernel
theorem dX5_play_133 : decode cX5_play 133 = .ok (.invokevirtual 80, 3) := by decide +kernel
theorem dX5_play_136 : decode cX5_play 136 = .ok (.goto 12, 3) := by decide +kernel
theorem dX5_play_139 : decode cX5_play 139 = .ok (.aload_n 0, 1) := by decide +kernel
theorem dX5_play_140 : decode cX5_play 140 = .ok (.getfield 12, 3) := by decide +kernel
theorem dX5_play_143 : decode cX5_play 143 = .ok (.iload 4, 2) := by decide +kernel
theorem dX5_play_145 : decode cX5_play 145 = .ok (.invokevirtual 83, 3) := by decide +kernel
theorem dX5_play_148 : decode cX5_play 148 = .ok (.aload_n 0, 1) := by decide +kernel
theorem dX5_play_149 : decode cX5_play 149 = .ok (.iload 4, 2) := by decide +kernel
theorem dX5_play_151 : decode cX5_play 151 = .ok (.invokevirtual 87, 3) := by decide +kernel
theorem dX5_play_154 : decode cX5_play 154 = .ok (.ifCond .eq 9, 3) := by decide +kernel
theorem dX5_play_157 : decode cX5_play 157 = .ok (.aload_n 0, 1) := by decide +kernel
theorem dX5_play_158 : decode cX5_play 158 = .ok (.iload 4, 2) := by decide +kernel
theorem dX5_play_160 : decode cX5_play 160 = .ok (.invokevirtual 91, 3) := by decide +kernel
theorem dX5_play_163 : decode cX5_play 163 = .ok (.iinc 4 1, 3) := by decide +kernel
theorem dX5_play_166 : decode cX5_play 166 = .ok (.goto (-103), 3) := by decide +kernel
theorem dX5_play_169 : decode cX5_play 169 = .ok (.return_, 1) := by decide +kernel
theorem dX5_measureFor_0 : decode cX5_measureFor 0 = .ok (.iconst 0, 1) := by decide +kernel
theorem dX5_measureFor_1 : decode cX5_measureFor 1 = .ok (.istore_n 2, 1) := by decide +kernel
theorem dX5_measureFor_2 : decode cX5_measureFor 2 = .ok (.iconst 0, 1) := by decide +kernel
theorem dX5_measureFor_3 : decode cX5_measureFor 3 = .ok (.istore_n 3, 1) := by decide +kernel
theorem dX5_measureFor_4 : decode cX5_measureFor 4 = .ok (.iload_n 3, 1) := by decide +kernel
theorem dX5_measureFor_5 : decode cX5_measureFor 5 = .ok (.aload_n 0, 1) := by decide +kernel
theorem dX5_measureFor_6 : decode cX5_measureFor 6 = .ok (.getfield 29, 3) := by decide +kernel
theorem dX5_measureFor_9 : decode cX5_measureFor 9 = .ok (.getfield 57, 3) := by decide +kernel
theorem dX5_measureFor_12 : decode cX5_measureFor 12 = .ok (.if_icmp .ge 35, 3) := by decide +kernel
theorem dX5_measureFor_15 : decode cX5_measureFor 15 = .ok (.iload_n 1, 1) := by decide +kernel
theorem dX5_measureFor_16 : decode cX5_measureFor 16 = .ok (.iconst (-1), 1) := by decide +kernel
theorem dX5_measureFor_17 : decode cX5_measureFor 17 = .ok (.if_icmp .eq 16, 3) := by decide +kernel
theorem dX5_measureFor_20 : decode cX5_measureFor 20 = .ok (.iload_n 1, 1) := by decide +kernel
theorem dX5_measureFor_21 : decode cX5_measureFor 21 = .ok (.aload_n 0, 1) := by decide +kernel
theorem dX5_measureFor_22 : decode cX5_measureFor 22 = .ok (.getfield 29, 3) := by decide +kernel
theorem dX5_measureFor_25 : decode cX5_measureFor 25 = .ok (.getfield 64, 3) := by decide +kernel
theorem dX5_measureFor_28 : decode cX5_measureFor 28 = .ok (.iload_n 3, 1) := by decide +kernel
theorem dX5_measureFor_29 : decode cX5_measureFor 29 = .ok (.iaload, 1) := by decide +kernel
theorem dX5_measureFor_30 : decode cX5_measureFor 30 = .ok (.if_icmp .ne 11, 3) := by decide +kernel
theorem dX5_measureFor_33 : decode cX5_measureFor 33 = .ok (.iload_n 2, 1) := by decide +kernel
theorem dX5_measureFor_34 : decode cX5_measureFor 34 = .ok (.aload_n 0, 1) := by decide +kernel
theorem dX5_measureFor_35 : decode cX5_measureFor 35 = .ok (.iload_n 3, 1) := by decide +kernel
theorem dX5_measureFor_36 : decode cX5_measureFor 36 = .ok (.invokevirtual 94, 3) := by decide +kernel
theorem dX5_measureFor_39 : decode cX5_measureFor 39 = .ok (.iadd, 1) := by decide +kernel
theorem dX5_measureFor_40 : decode cX5_measureFor 40 = .ok (.istore_n 2, 1) := by decide +kernel
theorem dX5_measureFor_41 : decode cX5_measureFor 41 = .ok (.iinc 3 1, 3) := by decide +kernel
theorem dX5_measureFor_44 : decode cX5_measureFor 44 = .ok (.goto (-40), 3) := by decide +kernel
theorem dX5_measureFor_47 : decode cX5_measureFor 47 = .ok (.iload_n 2, 1) := by decide +kernel
theorem dX5_measureFor_48 : decode cX5_measureFor 48 = .ok (.ireturn, 1) := by decide +kernel
theorem dX5_measureOf_0 : decode cX5_measureOf 0 = .ok (.aload_n 0, 1) := by decide +kernel
theorem dX5_measureOf_1 : decode cX5_measureOf 1 = .ok (.getfield 12, 3) := by decide +kernel
theorem dX5_measureOf_4 : decode cX5_measureOf 4 = .ok (.iload_n 1, 1) := by decide +kernel
theorem dX5_measureOf_5 : decode cX5_measureOf 5 = .ok (.invokevirtual 98, 3) := by decide +kernel
theorem dX5_measureOf_8 : decode cX5_measureOf 8 = .ok (.istore_n 2, 1) := by decide +kernel
theorem dX5_measureOf_9 : decode cX5_measureOf 9 = .ok (.aload_n 0, 1) := by decide +kernel
theorem dX5_measureOf_10 : decode cX5_measureOf 10 = .ok (.getfield 29, 3) := by decide +kernel
theorem dX5_measureOf_13 : decode cX5_measureOf 13 = .ok (.getfield 40, 3) := by decide +kernel
theorem dX5_measureOf_16 : decode cX5_measureOf 16 = .ok (.bipush 7, 2) := by decide +kernel
theorem dX5_measureOf_18 : decode cX5_measureOf 18 = .ok (.iaload, 1) := by decide +kernel
theorem dX5_measureOf_19 : decode cX5_measureOf 19 = .ok (.lookupswitch 57 #[(0, 25), (1, 37)], 25) := by decide +kernel
theorem dX5_measureOf_44 : decode cX5_measureOf 44 = .ok (.iload_n 2, 1) := by decide +kernel
theorem dX5_measureOf_45 : decode cX5_measureOf 45 = .ok (.bipush (-2), 2) := by decide +kernel
theorem dX5_measureOf_47 : decode cX5_measureOf 47 = .ok (.if_icmp .ne 7, 3) := by decide +kernel
theorem dX5_measureOf_50 : decode cX5_measureOf 50 = .ok (.iconst 1, 1) := by decide +kernel
theorem dX5_measureOf_51 : decode cX5_measureOf 51 = .ok (.goto 4, 3) := by decide +kernel
theorem dX5_measureOf_54 : decode cX5_measureOf 54 = .ok (.iconst 0, 1) := by decide +kernel
theorem dX5_measureOf_55 : decode cX5_measureOf 55 = .ok (.ireturn, 1) := by decide +kernel
theorem dX5_measureOf_56 : decode cX5_measureOf 56 = .ok (.iload_n 2, 1) := by decide +kernel
theorem dX5_measureOf_57 : decode cX5_measureOf 57 = .ok (.bipush (-2), 2) := by decide +kernel
theorem dX5_measureOf_59 : decode cX5_measureOf 59 = .ok (.if_icmp .ne 15, 3) := by decide +kernel
theorem dX5_measureOf_62 : decode cX5_measureOf 62 = .ok (.aload_n 0, 1) := by decide +kernel
theorem dX5_measureOf_63 : decode cX5_measureOf 63 = .ok (.getfield 29, 3) := by decide +kernel
theorem dX5_measureOf_66 : decode cX5_measureOf 66 = .ok (.getfield 77, 3) := by decide +kernel
theorem dX5_measureOf_69 : decode cX5_measureOf 69 = .ok (.iload_n 1, 1) := by decide +kernel
theorem dX5_measureOf_70 : decode cX5_measureOf 70 = .ok (.iaload, 1) := by decide +kernel
theorem dX5_measureOf_71 : decode cX5_measureOf 71 = .ok (.goto 4, 3) := by decide +kernel
theorem dX5_measureOf_74 : decode cX5_measureOf 74 = .ok (.iconst 0, 1) := by decide +kernel
theorem dX5_measureOf_75 : decode cX5_measureOf 75 = .ok (.ireturn, 1) := by decide +kernel
theorem dX5_measureOf_76 : decode cX5_measureOf 76 = .ok (.iload_n 2, 1) := by decide +kernel
theorem dX5_measureOf_77 : decode cX5_measureOf 77 = .ok (.ifCond .lt 17, 3) := by decide +kernel
theorem dX5_measureOf_80 : decode cX5_measureOf 80 = .ok (.iload_n 2, 1) := by decide +kernel
theorem dX5_measureOf_81 : decode cX5_measureOf 81 = .ok (.aload_n 0, 1) := by decide +kernel
theorem dX5_measureOf_82 : decode cX5_measureOf 82 = .ok (.getfield 29, 3) := by decide +kernel
theorem dX5_measureOf_85 : decode cX5_measureOf 85 = .ok (.getfield 101, 3) := by decide +kernel
theorem dX5_measureOf_88 : decode cX5_measureOf 88 = .ok (.iload_n 1, 1) := by decide +kernel
theorem dX5_measureOf_89 : decode cX5_measureOf 89 = .ok (.iaload, 1) := by decide +kernel
theorem dX5_measureOf_90 : decode cX5_measureOf 90 = .ok (.isub, 1) := by decide +kernel
theorem dX5_measureOf_91 : decode cX5_measureOf 91 = .ok (.goto 4, 3) := by decide +kernel
theorem dX5_measureOf_94 : decode cX5_measureOf 94 = .ok (.iconst 0, 1) := by decide +kernel
theorem dX5_measureOf_95 : decode cX5_measureOf 95 = .ok (.ireturn, 1) := by decide +kernel
theorem dX5_holds_0 : decode cX5_holds 0 = .ok (.iload_n 1, 1) := by decide +kernel
theorem dX5_holds_1 : decode cX5_holds 1 = .ok (.aload_n 0, 1) := by decide +kernel
theorem dX5_holds_2 : decode cX5_holds 2 = .ok (.getfield 33, 3) := by decide +kernel
theorem dX5_holds_5 : decode cX5_holds 5 = .ok (.if_icmp .gt 5, 3) := by decide +kernel
theorem dX5_holds_8 : decode cX5_holds 8 = .ok (.iconst 1, 1) := by decide +kernel
theorem dX5_holds_9 : decode cX5_holds 9 = .ok (.ireturn, 1) := by decide +kernel
theorem dX5_holds_10 : decode cX5_holds 10 = .ok (.aload_n 0, 1) := by decide +kernel
theorem dX5_holds_11 : decode cX5_holds 11 = .ok (.aload_n 0, 1) := by decide +kernel
theorem dX5_holds_12 : decode cX5_holds 12 = .ok (.getfield 37, 3) := by decide +kernel
theorem dX5_holds_15 : decode cX5_holds 15 = .ok (.iload_n 1, 1) := by decide +kernel
theorem dX5_holds_16 : decode cX5_holds 16 = .ok (.invokestatic 104, 3) := by decide +kernel
theorem dX5_holds_19 : decode cX5_holds 19 = .ok (.putfield 37, 3) := by decide +kernel
theorem dX5_holds_22 : decode cX5_holds 22 = .ok (.iconst 0, 1) := by decide +kernel
theorem dX5_holds_23 : decode cX5_holds 23 = .ok (.ireturn, 1) := by decide +kernel
theorem dX5_admits_0 : decode cX5_admits 0 = .ok (.aload_n 0, 1) := by decide +kernel
theorem dX5_admits_1 : decode cX5_admits 1 = .ok (.getfield 29, 3) := by decide +kernel
theorem dX5_admits_4 : decode cX5_admits 4 = .ok (.getfield 64, 3) := by decide +kernel
theorem dX5_admits_7 : decode cX5_admits 7 = .ok (.iload_n 1, 1) := by decide +kernel
theorem dX5_admits_8 : decode cX5_admits 8 = .ok (.iaload, 1) := by decide +kernel
theorem dX5_admits_9 : decode cX5_admits 9 = .ok (.istore_n 3, 1) := by decide +kernel
theorem dX5_admits_10 : decode cX5_admits 10 = .ok (.aload_n 0, 1) := by decide +kernel
theorem dX5_admits_11 : decode cX5_admits 11 = .ok (.getfield 29, 3) := by decide +kernel
theorem dX5_admits_14 : decode cX5_admits 14 = .ok (.getfield 77, 3) := by decide +kernel
theorem dX5_admits_17 : decode cX5_admits 17 = .ok (.iload_n 1, 1) := by decide +kernel
theorem dX5_admits_18 : decode cX5_admits 18 = .ok (.iaload, 1) := by decide +kernel
theorem dX5_admits_19 : decode cX5_admits 19 = .ok (.istore 4, 2) := by decide +kernel
theorem dX5_admits_21 : decode cX5_admits 21 = .ok (.aload_n 0, 1) := by decide +kernel
theorem dX5_admits_22 : decode cX5_admits 22 = .ok (.iload 4, 2) := by decide +kernel
theorem dX5_admits_24 : decode cX5_admits 24 = .ok (.invokevirtual 110, 3) := by decide +kernel
theorem dX5_admits_27 : decode cX5_admits 27 = .ok (.ifCond .ne 5, 3) := by decide +kernel
theorem dX5_admits_30 : decode cX5_admits 30 = .ok (.iconst 0, 1) := by decide +kernel
theorem dX5_admits_31 : decode cX5_admits 31 = .ok (.ireturn, 1) := by decide +kernel
theorem dX5_admits_32 : decode cX5_admits 32 = .ok (.iload_n 2, 1) := by decide +kernel
theorem dX5_admits_33 : decode cX5_admits 33 = .ok (.tableswitch 121 1 4 #[31, 38, 46, 91], 31) := by decide +kernel
theorem dX5_admits_64 : decode cX5_admits 64 = .ok (.aload_n 0, 1) := by decide +kernel
theorem dX5_admits_65 : decode cX5_admits 65 = .ok (.iload 4, 2) := by decide +kernel
theorem dX5_admits_67 : decode cX5_admits 67 = .ok (.invokevirtual 113, 3) := by decide +kernel
theorem dX5_admits_70 : decode cX5_admits 70 = .ok (.ireturn, 1) := by decide +kernel
theorem dX5_admits_71 : decode cX5_admits 71 = .ok (.aload_n 0, 1) := by decide +kernel
theorem dX5_admits_72 : decode cX5_admits 72 = .ok (.iload_n 3, 1) := by decide +kernel
theorem dX5_admits_73 : decode cX5_admits 73 = .ok (.iload 4, 2) := by decide +kernel
theorem dX5_admits_75 : decode cX5_admits 75 = .ok (.invokevirtual 116, 3) := by decide +kernel
theorem dX5_admits_78 : decode cX5_admits 78 = .ok (.ireturn, 1) := by decide +kernel
theorem dX5_admits_79 : decode cX5_admits 79 = .ok (.aload_n 0, 1) := by decide +kernel
theorem dX5_admits_80 : decode cX5_admits 80 = .ok (.aload_n 0, 1) := by decide +kernel
theorem dX5_admits_81 : decode cX5_admits 81 = .ok (.getfield 21, 3) := by decide +kernel
theorem dX5_admits_84 : decode cX5_admits 84 = .ok (.getfield 119, 3) := by decide +kernel
theorem dX5_admits_87 : decode cX5_admits 87 = .ok (.iload 4, 2) := by decide +kernel
theorem dX5_admits_89 : decode cX5_admits 89 = .ok (.iadd, 1) := by decide +kernel
theorem dX5_admits_90 : decode cX5_admits 90 = .ok (.invokevirtual 110, 3) := by decide +kernel
theorem dX5_admits_93 : decode cX5_admits 93 = .ok (.ifCond .eq 29, 3) := by decide +kernel
theorem dX5_admits_96 : decode cX5_admits 96 = .ok (.aload_n 0, 1) := by decide +kernel
theorem dX5_admits_97 : decode cX5_admits 97 = .ok (.aload_n 0, 1) := by decide +kernel
theorem dX5_admits_98 : decode cX5_admits 98 = .ok (.getfield 21, 3) := by decide +kernel
theorem dX5_admits_101 : decode cX5_admits 101 = .ok (.getfield 119, 3) := by decide +kernel
theorem dX5_admits_104 : decode cX5_admits 104 = .ok (.aload_n 0, 1) := by decide +kernel
theorem dX5_admits_105 : decode cX5_admits 105 = .ok (.iload_n 3, 1) := by decide +kernel
theorem dX5_admits_106 : decode cX5_admits 106 = .ok (.iload 4, 2) := by decide +kernel
theorem dX5_admits_108 : decode cX5_admits 108 = .ok (.invokevirtual 122, 3) := by decide +kernel
theorem dX5_admits_111 : decode cX5_admits 111 = .ok (.iadd, 1) := by decide +kernel
theorem dX5_admits_112 : decode cX5_admits 112 = .ok (.invokevirtual 110, 3) := by decide +kernel
theorem dX5_admits_115 : decode cX5_admits 115 = .ok (.ifCond .eq 7, 3) := by decide +kernel
theorem dX5_admits_118 : decode cX5_admits 118 = .ok (.iconst 1, 1) := by decide +kernel
theorem dX5_admits_119 : decode cX5_admits 119 = .ok (.goto 4, 3) := by decide +kernel
theorem dX5_admits_122 : decode cX5_admits 122 = .ok (.iconst 0, 1) := by decide +kernel
theorem dX5_admits_123 : decode cX5_admits 123 = .ok (.ireturn, 1) := by decide +kernel
theorem dX5_admits_124 : decode cX5_admits 124 = .ok (.aload_n 0, 1) := by decide +kernel
theorem dX5_admits_125 : decode cX5_admits 125 = .ok (.aload_n 0, 1) := by decide +kernel
theorem dX5_admits_126 : decode cX5_admits 126 = .ok (.getfield 21, 3) := by decide +kernel
theorem dX5_admits_129 : decode cX5_admits 129 = .ok (.getfield 119, 3) := by decide +kernel
theorem dX5_admits_132 : decode cX5_admits 132 = .ok (.iload 4, 2) := by decide +kernel
theorem dX5_admits_134 : decode cX5_admits 134 = .ok (.iadd, 1) := by decide +kernel
theorem dX5_admits_135 : decode cX5_admits 135 = .ok (.invokevirtual 110, 3) := by decide +kernel
theorem dX5_admits_138 : decode cX5_admits 138 = .ok (.ifCond .eq 14, 3) := by decide +kernel
theorem dX5_admits_141 : decode cX5_admits 141 = .ok (.aload_n 0, 1) := by decide +kernel
theorem dX5_admits_142 : decode cX5_admits 142 = .ok (.invokevirtual 125, 3) := by decide +kernel
theorem dX5_admits_145 : decode cX5_admits 145 = .ok (.ifCond .ne 7, 3) := by decide +kernel
theorem dX5_admits_148 : decode cX5_admits 148 = .ok (.iconst 1, 1) := by decide +kernel
theorem dX5_admits_149 : decode cX5_admits 149 = .ok (.goto 4, 3) := by decide +kernel
theorem dX5_admits_152 : decode cX5_admits 152 = .ok (.iconst 0, 1) := by decide +kernel
theorem dX5_admits_153 : decode cX5_admits 153 = .ok (.ireturn, 1) := by decide +kernel
theorem dX5_admits_154 : decode cX5_admits 154 = .ok (.aload_n 0, 1) := by decide +kernel
theorem dX5_admits_155 : decode cX5_admits 155 = .ok (.aload_n 0, 1) := by decide +kernel
theorem dX5_admits_156 : decode cX5_admits 156 = .ok (.getfield 21, 3) := by decide +kernel
theorem dX5_admits_159 : decode cX5_admits 159 = .ok (.getfield 119, 3) := by decide +kernel
theorem dX5_admits_162 : decode cX5_admits 162 = .ok (.iload 4, 2) := by decide +kernel
theorem dX5_admits_164 : decode cX5_admits 164 = .ok (.iadd, 1) := by decide +kernel
theorem dX5_admits_165 : decode cX5_admits 165 = .ok (.invokevirtual 110, 3) := by decide +kernel
theorem dX5_admits_168 : decode cX5_admits 168 = .ok (.ireturn, 1) := by decide +kernel
theorem dX5_makesRoomAtHead_0 : decode cX5_makesRoomAtHead 0 = .ok (.iconst 0, 1) := by decide +kernel
theorem dX5_makesRoomAtHead_1 : decode cX5_makesRoomAtHead 1 = .ok (.istore_n 2, 1) := by decide +kernel
theorem dX5_makesRoomAtHead_2 : decode cX5_makesRoomAtHead 2 = .ok (.iload_n 2, 1) := by decide +kernel
theorem dX5_makesRoomAtHead_3 : decode cX5_makesRoomAtHead 3 = .ok (.bipush 40, 2) := by decide +kernel
theorem dX5_makesRoomAtHead_5 : decode cX5_makesRoomAtHead 5 = .ok (.if_icmp .gt 55, 3) := by decide +kernel
theorem dX5_makesRoomAtHead_8 : decode cX5_makesRoomAtHead 8 = .ok (.aload_n 0, 1) := by decide +kernel
theorem dX5_makesRoomAtHead_9 : decode cX5_makesRoomAtHead 9 = .ok (.aload_n 0, 1) := by decide +kernel
theorem dX5_makesRoomAtHead_10 : decode cX5_makesRoomAtHead 10 = .ok (.getfield 21, 3) := by decide +kernel
theorem dX5_makesRoomAtHead_13 : decode cX5_makesRoomAtHead 13 = .ok (.getfield 119, 3) := by decide +kernel
theorem dX5_makesRoomAtHead_16 : decode cX5_makesRoomAtHead 16 = .ok (.iload_n 1, 1) := by decide +kernel
theorem dX5_makesRoomAtHead_17 : decode cX5_makesRoomAtHead 17 = .ok (.iadd, 1) := by decide +kernel
theorem dX5_makesRoomAtHead_18 : decode cX5_makesRoomAtHead 18 = .ok (.invokevirtual 110, 3) := by decide +kernel
theorem dX5_makesRoomAtHead_21 : decode cX5_makesRoomAtHead 21 = .ok (.ifCond .ne 39, 3) := by decide +kernel
theorem dX5_makesRoomAtHead_24 : decode cX5_makesRoomAtHead 24 = .ok (.aload_n 0, 1) := by decide +kernel
theorem dX5_makesRoomAtHead_25 : decode cX5_makesRoomAtHead 25 = .ok (.getfield 21, 3) := by decide +kernel
theorem dX5_makesRoomAtHead_28 : decode cX5_makesRoomAtHead 28 = .ok (.invokevirtual 129, 3) := by decide +kernel
theorem dX5_makesRoomAtHead_31 : decode cX5_makesRoomAtHead 31 = .ok (.istore_n 3, 1) := by decide +kernel
theorem dX5_makesRoomAtHead_32 : decode cX5_makesRoomAtHead 32 = .ok (.iload_n 3, 1) := by decide +kernel
theorem dX5_makesRoomAtHead_33 : decode cX5_makesRoomAtHead 33 = .ok (.iconst (-1), 1) := by decide +kernel
theorem dX5_makesRoomAtHead_34 : decode cX5_makesRoomAtHead 34 = .ok (.if_icmp .ne 5, 3) := by decide +kernel
theorem dX5_makesRoomAtHead_37 : decode cX5_makesRoomAtHead 37 = .ok (.iconst 0, 1) := by decide +kernel
theorem dX5_makesRoomAtHead_38 : decode cX5_makesRoomAtHead 38 = .ok (.ireturn, 1) := by decide +kernel
theorem dX5_makesRoomAtHead_39 : decode cX5_makesRoomAtHead 39 = .ok (.aload_n 0, 1) := by decide +kernel
theorem dX5_makesRoomAtHead_40 : decode cX5_makesRoomAtHead 40 = .ok (.getfield 12, 3) := by decide +kernel
theorem dX5_makesRoomAtHead_43 : decode cX5_makesRoomAtHead 43 = .ok (.aload_n 0, 1) := by decide +kernel
theorem dX5_makesRoomAtHead_44 : decode cX5_makesRoomAtHead 44 = .ok (.getfield 21, 3) := by decide +kernel
theorem dX5_makesRoomAtHead_47 : decode cX5_makesRoomAtHead 47 = .ok (.iload_n 3, 1) := by decide +kernel
theorem dX5_makesRoomAtHead_48 : decode cX5_makesRoomAtHead 48 = .ok (.invokevirtual 133, 3) := by decide +kernel
theorem dX5_makesRoomAtHead_51 : decode cX5_makesRoomAtHead 51 = .ok (.invokevirtual 83, 3) := by decide +kernel
theorem dX5_makesRoomAtHead_54 : decode cX5_makesRoomAtHead 54 = .ok (.iinc 2 1, 3) := by decide +kernel
theorem dX5_makesRoomAtHead_57 : decode cX5_makesRoomAtHead 57 = .ok (.goto (-55), 3) := by decide +kernel
theorem dX5_makesRoomAtHead_60 : decode cX5_makesRoomAtHead 60 = .ok (.iconst 1, 1) := by decide +kernel
theorem dX5_makesRoomAtHead_61 : decode cX5_makesRoomAtHead 61 = .ok (.ireturn, 1) := by decide +kernel
theorem dX5_makesRoomInLongestFlow_0 : decode cX5_makesRoomInLongestFlow 0 = .ok (.iconst 0, 1) := by decide +kernel
theorem dX5_makesRoomInLongestFlow_1 : decode cX5_makesRoomInLongestFlow 1 = .ok (.istore_n 3, 1) := by decide +kernel
theorem dX5_makesRoomInLongestFlow_2 : decode cX5_makesRoomInLongestFlow 2 = .ok (.iload_n 3, 1) := by decide +kernel
theorem dX5_makesRoomInLongestFlow_3 : decode cX5_makesRoomInLongestFlow 3 = .ok (.bipush 40, 2) := by decide +kernel
theorem dX5_makesRoomInLongestFlow_5 : decode cX5_makesRoomInLongestFlow 5 = .ok (.if_icmp .gt 61, 3) := by decide +kernel
theorem dX5_makesRoomInLongestFlow_8 : decode cX5_makesRoomInLongestFlow 8 = .ok (.aload_n 0, 1) := by decide +kernel
theorem dX5_makesRoomInLongestFlow_9 : decode cX5_makesRoomInLongestFlow 9 = .ok (.aload_n 0, 1) := by decide +kernel
theorem dX5_makesRoomInLongestFlow_10 : decode cX5_makesRoomInLongestFlow 10 = .ok (.getfield 21, 3) := by decide +kernel
theorem dX5_makesRoomInLongestFlow_13 : decode cX5_makesRoomInLongestFlow 13 = .ok (.getfield 119, 3) := by decide +kernel
theorem dX5_makesRoomInLongestFlow_16 : decode cX5_makesRoomInLongestFlow 16 = .ok (.iload_n 2, 1) := by decide +kernel
theorem dX5_makesRoomInLongestFlow_17 : decode cX5_makesRoomInLongestFlow 17 = .ok (.iadd, 1) := by decide +kernel
theorem dX5_makesRoomInLongestFlow_18 : decode cX5_makesRoomInLongestFlow 18 = .ok (.invokevirtual 110, 3) := by decide +kernel
theorem dX5_makesRoomInLongestFlow_21 : decode cX5_makesRoomInLongestFlow 21 = .ok (.ifCond .ne 45, 3) := by decide +kernel
theorem dX5_makesRoomInLongestFlow_24 : decode cX5_makesRoomInLongestFlow 24 = .ok (.aload_n 0, 1) := by decide +kernel
theorem dX5_makesRoomInLongestFlow_25 : decode cX5_makesRoomInLongestFlow 25 = .ok (.iload_n 1, 1) := by decide +kernel
theorem dX5_makesRoomInLongestFlow_26 : decode cX5_makesRoomInLongestFlow 26 = .ok (.iload_n 2, 1) := by decide +kernel
theorem dX5_makesRoomInLongestFlow_27 : decode cX5_makesRoomInLongestFlow 27 = .ok (.invokevirtual 136, 3) := by decide +kernel
theorem dX5_makesRoomInLongestFlow_30 : decode cX5_makesRoomInLongestFlow 30 = .ok (.istore 4, 2) := by decide +kernel
theorem dX5_makesRoomInLongestFlow_32 : decode cX5_makesRoomInLongestFlow 32 = .ok (.iload 4, 2) := by decide +kernel
theorem dX5_makesRoomInLongestFlow_34 : decode cX5_makesRoomInLongestFlow 34 = .ok (.iload_n 1, 1) := by decide +kernel
theorem dX5_makesRoomInLongestFlow_35 : decode cX5_makesRoomInLongestFlow 35 = .ok (.if_icmp .ne 5, 3) := by decide +kernel
theorem dX5_makesRoomInLongestFlow_38 : decode cX5_makesRoomInLongestFlow 38 = .ok (.iconst 0, 1) := by decide +kernel
theorem dX5_makesRoomInLongestFlow_39 : decode cX5_makesRoomInLongestFlow 39 = .ok (.ireturn, 1) := by decide +kernel
theorem dX5_makesRoomInLongestFlow_40 : decode cX5_makesRoomInLongestFlow 40 = .ok (.aload_n 0, 1) := by decide +kernel
theorem dX5_makesRoomInLongestFlow_41 : decode cX5_makesRoomInLongestFlow 41 = .ok (.getfield 12, 3) := by decide +kernel
theorem dX5_makesRoomInLongestFlow_44 : decode cX5_makesRoomInLongestFlow 44 = .ok (.aload_n 0, 1) := by decide +kernel
theorem dX5_makesRoomInLongestFlow_45 : decode cX5_makesRoomInLongestFlow 45 = .ok (.getfield 21, 3) := by decide +kernel
theorem dX5_makesRoomInLongestFlow_48 : decode cX5_makesRoomInLongestFlow 48 = .ok (.aload_n 0, 1) := by decide +kernel
theorem dX5_makesRoomInLongestFlow_49 : decode cX5_makesRoomInLongestFlow 49 = .ok (.iload 4, 2) := by decide +kernel
theorem dX5_makesRoomInLongestFlow_51 : decode cX5_makesRoomInLongestFlow 51 = .ok (.invokevirtual 139, 3) := by decide +kernel
theorem dX5_makesRoomInLongestFlow_54 : decode cX5_makesRoomInLongestFlow 54 = .ok (.invokevirtual 133, 3) := by decide +kernel
theorem dX5_makesRoomInLongestFlow_57 : decode cX5_makesRoomInLongestFlow 57 = .ok (.invokevirtual 83, 3) := by decide +kernel
theorem dX5_makesRoomInLongestFlow_60 : decode cX5_makesRoomInLongestFlow 60 = .ok (.iinc 3 1, 3) := by decide +kernel
theorem dX5_makesRoomInLongestFlow_63 : decode cX5_makesRoomInLongestFlow 63 = .ok (.goto (-61), 3) := by decide +kernel
theorem dX5_makesRoomInLongestFlow_66 : decode cX5_makesRoomInLongestFlow 66 = .ok (.iconst 1, 1) := by decide +kernel
theorem dX5_makesRoomInLongestFlow_67 : decode cX5_makesRoomInLongestFlow 67 = .ok (.ireturn, 1) := by decide +kernel
theorem dX5_longestFlow_0 : decode cX5_longestFlow 0 = .ok (.iconst 0, 1) := by decide +kernel
theorem dX5_longestFlow_1 : decode cX5_longestFlow 1 = .ok (.istore_n 3, 1) := by decide +kernel
theorem dX5_longestFlow_2 : decode cX5_longestFlow 2 = .ok (.iload_n 3, 1) := by decide +kernel
theorem dX5_longestFlow_3 : decode cX5_longestFlow 3 = .ok (.bipush 6, 2) := by decide +kernel
theorem dX5_longestFlow_5 : decode cX5_longestFlow 5 = .ok (.if_icmp .ge 25, 3) := by decide +kernel
theorem dX5_longestFlow_8 : decode cX5_longestFlow 8 = .ok (.aload_n 0, 1) := by decide +kernel
theorem dX5_longestFlow_9 : decode cX5_longestFlow 9 = .ok (.getfield 25, 3) := by decide +kernel
theorem dX5_longestFlow_12 : decode cX5_longestFlow 12 = .ok (.iload_n 3, 1) := by decide +kernel
theorem dX5_longestFlow_13 : decode cX5_longestFlow 13 = .ok (.iload_n 3, 1) := by decide +kernel
theorem dX5_longestFlow_14 : decode cX5_longestFlow 14 = .ok (.iload_n 1, 1) := by decide +kernel
theorem dX5_longestFlow_15 : decode cX5_longestFlow 15 = .ok (.if_icmp .ne 7, 3) := by decide +kernel
theorem dX5_longestFlow_18 : decode cX5_longestFlow 18 = .ok (.iload_n 2, 1) := by decide +kernel
theorem dX5_longestFlow_19 : decode cX5_longestFlow 19 = .ok (.goto 4, 3) := by decide +kernel
theorem dX5_longestFlow_22 : decode cX5_longestFlow 22 = .ok (.iconst 0, 1) := by decide +kernel
theorem dX5_longestFlow_23 : decode cX5_longestFlow 23 = .ok (.iastore, 1) := by decide +kernel
theorem dX5_longestFlow_24 : decode cX5_longestFlow 24 = .ok (.iinc 3 1, 3) := by decide +kernel
theorem dX5_longestFlow_27 : decode cX5_longestFlow 27 = .ok (.goto (-25), 3) := by decide +kernel
theorem dX5_longestFlow_30 : decode cX5_longestFlow 30 = .ok (.iconst 0, 1) := by decide +kernel
theorem dX5_longestFlow_31 : decode cX5_longestFlow 31 = .ok (.istore_n 3, 1) := by decide +kernel
theorem dX5_longestFlow_32 : decode cX5_longestFlow 32 = .ok (.iload_n 3, 1) := by decide +kernel
theorem dX5_longestFlow_33 : decode cX5_longestFlow 33 = .ok (.aload_n 0, 1) := by decide +kernel
theorem dX5_longestFlow_34 : decode cX5_longestFlow 34 = .ok (.getfield 21, 3) := by decide +kernel
theorem dX5_longestFlow_37 : decode cX5_longestFlow 37 = .ok (.getfield 142, 3) := by decide +kernel
theorem dX5_longestFlow_40 : decode cX5_longestFlow 40 = .ok (.if_icmp .ge 60, 3) := by decide +kernel
theorem dX5_longestFlow_43 : decode cX5_longestFlow 43 = .ok (.aload_n 0, 1) := by decide +kernel
theorem dX5_longestFlow_44 : decode cX5_longestFlow 44 = .ok (.getfield 21, 3) := by decide +kernel
theorem dX5_longestFlow_47 : decode cX5_longestFlow 47 = .ok (.getfield 145, 3) := by decide +kernel
theorem dX5_longestFlow_50 : decode cX5_longestFlow 50 = .ok (.iload_n 3, 1) := by decide +kernel
theorem dX5_longestFlow_51 : decode cX5_longestFlow 51 = .ok (.iaload, 1) := by decide +kernel
theorem dX5_longestFlow_52 : decode cX5_longestFlow 52 = .ok (.istore 4, 2) := by decide +kernel
theorem dX5_longestFlow_54 : decode cX5_longestFlow 54 = .ok (.iload 4, 2) := by decide +kernel
theorem dX5_longestFlow_56 : decode cX5_longestFlow 56 = .ok (.aload_n 0, 1) := by decide +kernel
theorem dX5_longestFlow_57 : decode cX5_longestFlow 57 = .ok (.getfield 21, 3) := by decide +kernel
theorem dX5_longestFlow_60 : decode cX5_longestFlow 60 = .ok (.getfield 148, 3) := by decide +kernel
theorem dX5_longestFlow_63 : decode cX5_longestFlow 63 = .ok (.if_icmp .eq 31, 3) := by decide +kernel
theorem dX5_longestFlow_66 : decode cX5_longestFlow 66 = .ok (.aload_n 0, 1) := by decide +kernel
theorem dX5_longestFlow_67 : decode cX5_longestFlow 67 = .ok (.getfield 25, 3) := by decide +kernel
theorem dX5_longestFlow_70 : decode cX5_longestFlow 70 = .ok (.aload_n 0, 1) := by decide +kernel
theorem dX5_longestFlow_71 : decode cX5_longestFlow 71 = .ok (.getfield 29, 3) := by decide +kernel
theorem dX5_longestFlow_74 : decode cX5_longestFlow 74 = .ok (.getfield 64, 3) := by decide +kernel
theorem dX5_longestFlow_77 : decode cX5_longestFlow 77 = .ok (.iload 4, 2) := by decide +kernel
theorem dX5_longestFlow_79 : decode cX5_longestFlow 79 = .ok (.iaload, 1) := by decide +kernel
theorem dX5_longestFlow_80 : decode cX5_longestFlow 80 = .ok (.dup2, 1) := by decide +kernel
theorem dX5_longestFlow_81 : decode cX5_longestFlow 81 = .ok (.iaload, 1) := by decide +kernel
theorem dX5_longestFlow_82 : decode cX5_longestFlow 82 = .ok (.aload_n 0, 1) := by decide +kernel
theorem dX5_longestFlow_83 : decode cX5_longestFlow 83 = .ok (.getfield 29, 3) := by decide +kernel
theorem dX5_longestFlow_86 : decode cX5_longestFlow 86 = .ok (.getfield 77, 3) := by decide +kernel
theorem dX5_longestFlow_89 : decode cX5_longestFlow 89 = .ok (.iload 4, 2) := by decide +kernel
theorem dX5_longestFlow_91 : decode cX5_longestFlow 91 = .ok (.iaload, 1) := by decide +kernel
theorem dX5_longestFlow_92 : decode cX5_longestFlow 92 = .ok (.iadd, 1) := by decide +kernel
theorem dX5_longestFlow_93 : decode cX5_longestFlow 93 = .ok (.iastore, 1) := by decide +kernel
theorem dX5_longestFlow_94 : decode cX5_longestFlow 94 = .ok (.iinc 3 1, 3) := by decide +kernel
theorem dX5_longestFlow_97 : decode cX5_longestFlow 97 = .ok (.goto (-65), 3) := by decide +kernel
theorem dX5_longestFlow_100 : decode cX5_longestFlow 100 = .ok (.iconst 0, 1) := by decide +kernel
theorem dX5_longestFlow_101 : decode cX5_longestFlow 101 = .ok (.istore_n 3, 1) := by decide +kernel
theorem dX5_longestFlow_102 : decode cX5_longestFlow 102 = .ok (.iconst 1, 1) := by decide +kernel
theorem dX5_longestFlow_103 : decode cX5_longestFlow 103 = .ok (.istore 4, 2) := by decide +kernel
theorem dX5_longestFlow_105 : decode cX5_longestFlow 105 = .ok (.iload 4, 2) := by decide +kernel
theorem dX5_longestFlow_107 : decode cX5_longestFlow 107 = .ok (.bipush 6, 2) := by decide +kernel
theorem dX5_longestFlow_109 : decode cX5_longestFlow 109 = .ok (.if_icmp .ge 28, 3) := by decide +kernel
theorem dX5_longestFlow_112 : decode cX5_longestFlow 112 = .ok (.aload_n 0, 1) := by decide +kernel
theorem dX5_longestFlow_113 : decode cX5_longestFlow 113 = .ok (.getfield 25, 3) := by decide +kernel
theorem dX5_longestFlow_116 : decode cX5_longestFlow 116 = .ok (.iload 4, 2) := by decide +kernel
theorem dX5_longestFlow_118 : decode cX5_longestFlow 118 = .ok (.iaload, 1) := by decide +kernel
theorem dX5_longestFlow_119 : decode cX5_longestFlow 119 = .ok (.aload_n 0, 1) := by decide +kernel
theorem dX5_longestFlow_120 : decode cX5_longestFlow 120 = .ok (.getfield 25, 3) := by decide +kernel
theorem dX5_longestFlow_123 : decode cX5_longestFlow 123 = .ok (.iload_n 3, 1) := by decide +kernel
theorem dX5_longestFlow_124 : decode cX5_longestFlow 124 = .ok (.iaload, 1) := by decide +kernel
theorem dX5_longestFlow_125 : decode cX5_longestFlow 125 = .ok (.if_icmp .le 6, 3) := by decide +kernel
theorem dX5_longestFlow_128 : decode cX5_longestFlow 128 = .ok (.iload 4, 2) := by decide +kernel
theorem dX5_longestFlow_130 : decode cX5_longestFlow 130 = .ok (.istore_n 3, 1) := by decide +kernel
theorem dX5_longestFlow_131 : decode cX5_longestFlow 131 = .ok (.iinc 4 1, 3) := by decide +kernel
theorem dX5_longestFlow_134 : decode cX5_longestFlow 134 = .ok (.goto (-29), 3) := by decide +kernel
theorem dX5_longestFlow_137 : decode cX5_longestFlow 137 = .ok (.iload_n 3, 1) := by decide +kernel
theorem dX5_longestFlow_138 : decode cX5_longestFlow 138 = .ok (.ireturn, 1) := by decide +kernel
theorem dX5_lastNotBegunOf_0 : decode cX5_lastNotBegunOf 0 = .ok (.aload_n 0, 1) := by decide +kernel
theorem dX5_lastNotBegunOf_1 : decode cX5_lastNotBegunOf 1 = .ok (.getfield 21, 3) := by decide +kernel
theorem dX5_lastNotBegunOf_4 : decode cX5_lastNotBegunOf 4 = .ok (.getfield 142, 3) := by decide +kernel
theorem dX5_lastNotBegunOf_7 : decode cX5_lastNotBegunOf 7 = .ok (.iconst 1, 1) := by decide +kernel
theorem dX5_lastNotBegunOf_8 : decode cX5_lastNotBegunOf 8 = .ok (.isub, 1) := by decide +kernel
theorem dX5_lastNotBegunOf_9 : decode cX5_lastNotBegunOf 9 = .ok (.istore_n 2, 1) := by decide +kernel
theorem dX5_lastNotBegunOf_10 : decode cX5_lastNotBegunOf 10 = .ok (.iload_n 2, 1) := by decide +kernel
theorem dX5_lastNotBegunOf_11 : decode cX5_lastNotBegunOf 11 = .ok (.ifCond .lt 45, 3) := by decide +kernel
theorem dX5_lastNotBegunOf_14 : decode cX5_lastNotBegunOf 14 = .ok (.aload_n 0, 1) := by decide +kernel
theorem dX5_lastNotBegunOf_15 : decode cX5_lastNotBegunOf 15 = .ok (.getfield 21, 3) := by decide +kernel
theorem dX5_lastNotBegunOf_18 : decode cX5_lastNotBegunOf 18 = .ok (.getfield 145, 3) := by decide +kernel
theorem dX5_lastNotBegunOf_21 : decode cX5_lastNotBegunOf 21 = .ok (.iload_n 2, 1) := by decide +kernel
theorem dX5_lastNotBegunOf_22 : decode cX5_lastNotBegunOf 22 = .ok (.iaload, 1) := by decide +kernel
theorem dX5_lastNotBegunOf_23 : decode cX5_lastNotBegunOf 23 = .ok (.istore_n 3, 1) := by decide +kernel
theorem dX5_lastNotBegunOf_24 : decode cX5_lastNotBegunOf 24 = .ok (.iload_n 3, 1) := by decide +kernel
theorem dX5_lastNotBegunOf_25 : decode cX5_lastNotBegunOf 25 = .ok (.aload_n 0, 1) := by decide +kernel
theorem dX5_lastNotBegunOf_26 : decode cX5_lastNotBegunOf 26 = .ok (.getfield 21, 3) := by decide +kernel
theorem dX5_lastNotBegunOf_29 : decode cX5_lastNotBegunOf 29 = .ok (.getfield 148, 3) := by decide +kernel
theorem dX5_lastNotBegunOf_32 : decode cX5_lastNotBegunOf 32 = .ok (.if_icmp .eq 18, 3) := by decide +kernel
theorem dX5_lastNotBegunOf_35 : decode cX5_lastNotBegunOf 35 = .ok (.aload_n 0, 1) := by decide +kernel
theorem dX5_lastNotBegunOf_36 : decode cX5_lastNotBegunOf 36 = .ok (.getfield 29, 3) := by decide +kernel
theorem dX5_lastNotBegunOf_39 : decode cX5_lastNotBegunOf 39 = .ok (.getfield 64, 3) := by decide +kernel
theorem dX5_lastNotBegunOf_42 : decode cX5_lastNotBegunOf 42 = .ok (.iload_n 3, 1) := by decide +kernel
theorem dX5_lastNotBegunOf_43 : decode cX5_lastNotBegunOf 43 = .ok (.iaload, 1) := by decide +kernel
theorem dX5_lastNotBegunOf_44 : decode cX5_lastNotBegunOf 44 = .ok (.iload_n 1, 1) := by decide +kernel
theorem dX5_lastNotBegunOf_45 : decode cX5_lastNotBegunOf 45 = .ok (.if_icmp .ne 5, 3) := by decide +kernel
theorem dX5_lastNotBegunOf_48 : decode cX5_lastNotBegunOf 48 = .ok (.iload_n 2, 1) := by decide +kernel
theorem dX5_lastNotBegunOf_49 : decode cX5_lastNotBegunOf 49 = .ok (.ireturn, 1) := by decide +kernel
theorem dX5_lastNotBegunOf_50 : decode cX5_lastNotBegunOf 50 = .ok (.iinc 2 (-1), 3) := by decide +kernel
theorem dX5_lastNotBegunOf_53 : decode cX5_lastNotBegunOf 53 = .ok (.goto (-43), 3) := by decide +kernel
theorem dX5_lastNotBegunOf_56 : decode cX5_lastNotBegunOf 56 = .ok (.iconst (-1), 1) := by decide +kernel
theorem dX5_lastNotBegunOf_57 : decode cX5_lastNotBegunOf 57 = .ok (.ireturn, 1) := by decide +kernel
theorem dX5_bytesForThreshold_0 : decode cX5_bytesForThreshold 0 = .ok (.iload_n 2, 1) := by decide +kernel
theorem dX5_bytesForThreshold_1 : decode cX5_bytesForThreshold 1 = .ok (.istore_n 3, 1) := by decide +kernel
theorem dX5_bytesForThreshold_2 : decode cX5_bytesForThreshold 2 = .ok (.iconst 0, 1) := by decide +kernel
theorem dX5_bytesForThreshold_3 : decode cX5_bytesForThreshold 3 = .ok (.istore 4, 2) := by decide +kernel
theorem dX5_bytesForThreshold_5 : decode cX5_bytesForThreshold 5 = .ok (.iload 4, 2) := by decide +kernel
theorem dX5_bytesForThreshold_7 : decode cX5_bytesForThreshold 7 = .ok (.aload_n 0, 1) := by decide +kernel
theorem dX5_bytesForThreshold_8 : decode cX5_bytesForThreshold 8 = .ok (.getfield 21, 3) := by decide +kernel
theorem dX5_bytesForThreshold_11 : decode cX5_bytesForThreshold 11 = .ok (.getfield 142, 3) := by decide +kernel
theorem dX5_bytesForThreshold_14 : decode cX5_bytesForThreshold 14 = .ok (.if_icmp .ge 48, 3) := by decide +kernel
theorem dX5_bytesForThreshold_17 : decode cX5_bytesForThreshold 17 = .ok (.aload_n 0, 1) := by decide +kernel
theorem dX5_bytesForThreshold_18 : decode cX5_bytesForThreshold 18 = .ok (.getfield 21, 3) := by decide +kernel
theorem dX5_bytesForThreshold_21 : decode cX5_bytesForThreshold 21 = .ok (.getfield 145, 3) := by decide +kernel
theorem dX5_bytesForThreshold_24 : decode cX5_bytesForThreshold 24 = .ok (.iload 4, 2) := by decide +kernel
theorem dX5_bytesForThreshold_26 : decode cX5_bytesForThreshold 26 = .ok (.iaload, 1) := by decide +kernel
theorem dX5_bytesForThreshold_27 : decode cX5_bytesForThreshold 27 = .ok (.istore 5, 2) := by decide +kernel
theorem dX5_bytesForThreshold_29 : decode cX5_bytesForThreshold 29 = .ok (.aload_n 0, 1) := by decide +kernel
theorem dX5_bytesForThreshold_30 : decode cX5_bytesForThreshold 30 = .ok (.getfield 29, 3) := by decide +kernel
theorem dX5_bytesForThreshold_33 : decode cX5_bytesForThreshold 33 = .ok (.getfield 64, 3) := by decide +kernel
theorem dX5_bytesForThreshold_36 : decode cX5_bytesForThreshold 36 = .ok (.iload 5, 2) := by decide +kernel
theorem dX5_bytesForThreshold_38 : decode cX5_bytesForThreshold 38 = .ok (.iaload, 1) := by decide +kernel
theorem dX5_bytesForThreshold_39 : decode cX5_bytesForThreshold 39 = .ok (.iload_n 1, 1) := by decide +kernel
theorem dX5_bytesForThreshold_40 : decode cX5_bytesForThreshold 40 = .ok (.if_icmp .ne 16, 3) := by decide +kernel
theorem dX5_bytesForThreshold_43 : decode cX5_bytesForThreshold 43 = .ok (.iload_n 3, 1) := by decide +kernel
theorem dX5_bytesForThreshold_44 : decode cX5_bytesForThreshold 44 = .ok (.aload_n 0, 1) := by decide +kernel
theorem dX5_bytesForThreshold_45 : decode cX5_bytesForThreshold 45 = .ok (.getfield 21, 3) := by decide +kernel
theorem dX5_bytesForThreshold_48 : decode cX5_bytesForThreshold 48 = .ok (.getfield 151, 3) := by decide +kernel
theorem dX5_bytesForThreshold_51 : decode cX5_bytesForThreshold 51 = .ok (.iload 5, 2) := by decide +kernel
theorem dX5_bytesForThreshold_53 : decode cX5_bytesForThreshold 53 = .ok (.iaload, 1) := by decide +kernel
theorem dX5_bytesForThreshold_54 : decode cX5_bytesForThreshold 54 = .ok (.iadd, 1) := by decide +kernel
theorem dX5_bytesForThreshold_55 : decode cX5_bytesForThreshold 55 = .ok (.istore_n 3, 1) := by decide +kernel
theorem dX5_bytesForThreshold_56 : decode cX5_bytesForThreshold 56 = .ok (.iinc 4 1, 3) := by decide +kernel
theorem dX5_bytesForThreshold_59 : decode cX5_bytesForThreshold 59 = .ok (.goto (-54), 3) := by decide +kernel
theorem dX5_bytesForThreshold_62 : decode cX5_bytesForThreshold 62 = .ok (.aload_n 0, 1) := by decide +kernel
theorem dX5_bytesForThreshold_63 : decode cX5_bytesForThreshold 63 = .ok (.getfield 29, 3) := by decide +kernel
theorem dX5_bytesForThreshold_66 : decode cX5_bytesForThreshold 66 = .ok (.getfield 40, 3) := by decide +kernel
theorem dX5_bytesForThreshold_69 : decode cX5_bytesForThreshold 69 = .ok (.iconst 4, 1) := by decide +kernel
theorem dX5_bytesForThreshold_70 : decode cX5_bytesForThreshold 70 = .ok (.iaload, 1) := by decide +kernel
theorem dX5_bytesForThreshold_71 : decode cX5_bytesForThreshold 71 = .ok (.istore 4, 2) := by decide +kernel
theorem dX5_bytesForThreshold_73 : decode cX5_bytesForThreshold 73 = .ok (.iconst 4, 1) := by decide +kernel
theorem dX5_bytesForThreshold_74 : decode cX5_bytesForThreshold 74 = .ok (.iload_n 3, 1) := by decide +kernel
theorem dX5_bytesForThreshold_75 : decode cX5_bytesForThreshold 75 = .ok (.imul, 1) := by decide +kernel
theorem dX5_bytesForThreshold_76 : decode cX5_bytesForThreshold 76 = .ok (.iload 4, 2) := by decide +kernel
theorem dX5_bytesForThreshold_78 : decode cX5_bytesForThreshold 78 = .ok (.iadd, 1) := by decide +kernel
theorem dX5_bytesForThreshold_79 : decode cX5_bytesForThreshold 79 = .ok (.iconst 1, 1) := by decide +kernel
theorem dX5_bytesForThreshold_80 : decode cX5_bytesForThreshold 80 = .ok (.isub, 1) := by decide +kernel
theorem dX5_bytesForThreshold_81 : decode cX5_bytesForThreshold 81 = .ok (.iload 4, 2) := by decide +kernel
theorem dX5_bytesForThreshold_83 : decode cX5_bytesForThreshold 83 = .ok (.invokestatic 154, 3) := by decide +kernel
theorem dX5_bytesForThreshold_86 : decode cX5_bytesForThreshold 86 = .ok (.ireturn, 1) := by decide +kernel
theorem dX5_isDroppedEarly_0 : decode cX5_isDroppedEarly 0 = .ok (.aload_n 0, 1) := by decide +kernel
theorem dX5_isDroppedEarly_1 : decode cX5_isDroppedEarly 1 = .ok (.getfield 21, 3) := by decide +kernel
theorem dX5_isDroppedEarly_4 : decode cX5_isDroppedEarly 4 = .ok (.getfield 119, 3) := by decide +kernel
theorem dX5_isDroppedEarly_7 : decode cX5_isDroppedEarly 7 = .ok (.aload_n 0, 1) := by decide +kernel
theorem dX5_isDroppedEarly_8 : decode cX5_isDroppedEarly 8 = .ok (.getfield 29, 3) := by decide +kernel
theorem dX5_isDroppedEarly_11 : decode cX5_isDroppedEarly 11 = .ok (.getfield 40, 3) := by decide +kernel
theorem dX5_isDroppedEarly_14 : decode cX5_isDroppedEarly 14 = .ok (.iconst 5, 1) := by decide +kernel
theorem dX5_isDroppedEarly_15 : decode cX5_isDroppedEarly 15 = .ok (.iaload, 1) := by decide +kernel
theorem dX5_isDroppedEarly_16 : decode cX5_isDroppedEarly 16 = .ok (.if_icmp .ge 5, 3) := by decide +kernel
theorem dX5_isDroppedEarly_19 : decode cX5_isDroppedEarly 19 = .ok (.iconst 0, 1) := by decide +kernel
theorem dX5_isDroppedEarly_20 : decode cX5_isDroppedEarly 20 = .ok (.ireturn, 1) := by decide +kernel
theorem dX5_isDroppedEarly_21 : decode cX5_isDroppedEarly 21 = .ok (.aload_n 0, 1) := by decide +kernel
theorem dX5_isDroppedEarly_22 : decode cX5_isDroppedEarly 22 = .ok (.dup, 1) := by decide +kernel
theorem dX5_isDroppedEarly_23 : decode cX5_isDroppedEarly 23 = .ok (.getfield 48, 3) := by decide +kernel
theorem dX5_isDroppedEarly_26 : decode cX5_isDroppedEarly 26 = .ok (.iconst 1, 1) := by decide +kernel
theorem dX5_isDroppedEarly_27 : decode cX5_isDroppedEarly 27 = .ok (.iadd, 1) := by decide +kernel
theorem dX5_isDroppedEarly_28 : decode cX5_isDroppedEarly 28 = .ok (.putfield 48, 3) := by decide +kernel
theorem dX5_isDroppedEarly_31 : decode cX5_isDroppedEarly 31 = .ok (.aload_n 0, 1) := by decide +kernel
theorem dX5_isDroppedEarly_32 : decode cX5_isDroppedEarly 32 = .ok (.getfield 48, 3) := by decide +kernel
theorem dX5_isDroppedEarly_35 : decode cX5_isDroppedEarly 35 = .ok (.aload_n 0, 1) := by decide +kernel
theorem dX5_isDroppedEarly_36 : decode cX5_isDroppedEarly 36 = .ok (.getfield 29, 3) := by decide +kernel
theorem dX5_isDroppedEarly_39 : decode cX5_isDroppedEarly 39 = .ok (.getfield 40, 3) := by decide +kernel
theorem dX5_isDroppedEarly_42 : decode cX5_isDroppedEarly 42 = .ok (.bipush 6, 2) := by decide +kernel
theorem dX5_isDroppedEarly_44 : decode cX5_isDroppedEarly 44 = .ok (.iaload, 1) := by decide +kernel
theorem dX5_isDroppedEarly_45 : decode cX5_isDroppedEarly 45 = .ok (.if_icmp .ge 5, 3) := by decide +kernel
theorem dX5_isDroppedEarly_48 : decode cX5_isDroppedEarly 48 = .ok (.iconst 0, 1) := by decide +kernel
theorem dX5_isDroppedEarly_49 : decode cX5_isDroppedEarly 49 = .ok (.ireturn, 1) := by decide +kernel
theorem dX5_isDroppedEarly_50 : decode cX5_isDroppedEarly 50 = .ok (.aload_n 0, 1) := by decide +kernel
theorem dX5_isDroppedEarly_51 : decode cX5_isDroppedEarly 51 = .ok (.iconst 0, 1) := by decide +kernel
theorem dX5_isDroppedEarly_52 : decode cX5_isDroppedEarly 52 = .ok (.putfield 48, 3) := by decide +kernel
theorem dX5_isDroppedEarly_55 : decode cX5_isDroppedEarly 55 = .ok (.iconst 1, 1) := by decide +kernel
theorem dX5_isDroppedEarly_56 : decode cX5_isDroppedEarly 56 = .ok (.ireturn, 1) := by decide +kernel
theorem dX5_isLastOfItsTick_0 : decode cX5_isLastOfItsTick 0 = .ok (.iload_n 1, 1) := by decide +kernel
theorem dX5_isLastOfItsTick_1 : decode cX5_isLastOfItsTick 1 = .ok (.iconst 1, 1) := by decide +kernel
theorem dX5_isLastOfItsTick_2 : decode cX5_isLastOfItsTick 2 = .ok (.iadd, 1) := by decide +kernel
theorem dX5_isLastOfItsTick_3 : decode cX5_isLastOfItsTick 3 = .ok (.aload_n 0, 1) := by decide +kernel
theorem dX5_isLastOfItsTick_4 : decode cX5_isLastOfItsTick 4 = .ok (.getfield 29, 3) := by decide +kernel
theorem dX5_isLastOfItsTick_7 : decode cX5_isLastOfItsTick 7 = .ok (.getfield 57, 3) := by decide +kernel
theorem dX5_isLastOfItsTick_10 : decode cX5_isLastOfItsTick 10 = .ok (.if_icmp .ge 26, 3) := by decide +kernel
theorem dX5_isLastOfItsTick_13 : decode cX5_isLastOfItsTick 13 = .ok (.aload_n 0, 1) := by decide +kernel
theorem dX5_isLastOfItsTick_14 : decode cX5_isLastOfItsTick 14 = .ok (.getfield 29, 3) := by decide +kernel
theorem dX5_isLastOfItsTick_17 : decode cX5_isLastOfItsTick 17 = .ok (.getfield 101, 3) := by decide +kernel
theorem dX5_isLastOfItsTick_20 : decode cX5_isLastOfItsTick 20 = .ok (.iload_n 1, 1) := by decide +kernel
theorem dX5_isLastOfItsTick_21 : decode cX5_isLastOfItsTick 21 = .ok (.iconst 1, 1) := by decide +kernel
theorem dX5_isLastOfItsTick_22 : decode cX5_isLastOfItsTick 22 = .ok (.iadd, 1) := by decide +kernel
theorem dX5_isLastOfItsTick_23 : decode cX5_isLastOfItsTick 23 = .ok (.iaload, 1) := by decide +kernel
theorem dX5_isLastOfItsTick_24 : decode cX5_isLastOfItsTick 24 = .ok (.aload_n 0, 1) := by decide +kernel
theorem dX5_isLastOfItsTick_25 : decode cX5_isLastOfItsTick 25 = .ok (.getfield 29, 3) := by decide +kernel
theorem dX5_isLastOfItsTick_28 : decode cX5_isLastOfItsTick 28 = .ok (.getfield 101, 3) := by decide +kernel
theorem dX5_isLastOfItsTick_31 : decode cX5_isLastOfItsTick 31 = .ok (.iload_n 1, 1) := by decide +kernel
theorem dX5_isLastOfItsTick_32 : decode cX5_isLastOfItsTick 32 = .ok (.iaload, 1) := by decide +kernel
theorem dX5_isLastOfItsTick_33 : decode cX5_isLastOfItsTick 33 = .ok (.if_icmp .le 7, 3) := by decide +kernel
theorem dX5_isLastOfItsTick_36 : decode cX5_isLastOfItsTick 36 = .ok (.iconst 1, 1) := by decide +kernel
theorem dX5_isLastOfItsTick_37 : decode cX5_isLastOfItsTick 37 = .ok (.goto 4, 3) := by decide +kernel
theorem dX5_isLastOfItsTick_40 : decode cX5_isLastOfItsTick 40 = .ok (.iconst 0, 1) := by decide +kernel
theorem dX5_isLastOfItsTick_41 : decode cX5_isLastOfItsTick 41 = .ok (.ireturn, 1) := by decide +kernel
theorem dX5_bytesUntilNext_0 : decode cX5_bytesUntilNext 0 = .ok (.iload_n 1, 1) := by decide +kernel
theorem dX5_bytesUntilNext_1 : decode cX5_bytesUntilNext 1 = .ok (.iconst 1, 1) := by decide +kernel
theorem dX5_bytesUntilNext_2 : decode cX5_bytesUntilNext 2 = .ok (.iadd, 1) := by decide +kernel
theorem dX5_bytesUntilNext_3 : decode cX5_bytesUntilNext 3 = .ok (.aload_n 0, 1) := by decide +kernel
theorem dX5_bytesUntilNext_4 : decode cX5_bytesUntilNext 4 = .ok (.getfield 29, 3) := by decide +kernel
theorem dX5_bytesUntilNext_7 : decode cX5_bytesUntilNext 7 = .ok (.getfield 57, 3) := by decide +kernel
theorem dX5_bytesUntilNext_10 : decode cX5_bytesUntilNext 10 = .ok (.if_icmp .lt 11, 3) := by decide +kernel
theorem dX5_bytesUntilNext_13 : decode cX5_bytesUntilNext 13 = .ok (.aload_n 0, 1) := by decide +kernel
theorem dX5_bytesUntilNext_14 : decode cX5_bytesUntilNext 14 = .ok (.getfield 21, 3) := by decide +kernel
theorem dX5_bytesUntilNext_17 : decode cX5_bytesUntilNext 17 = .ok (.getfield 119, 3) := by decide +kernel
theorem dX5_bytesUntilNext_20 : decode cX5_bytesUntilNext 20 = .ok (.ireturn, 1) := by decide +kernel
theorem dX5_bytesUntilNext_21 : decode cX5_bytesUntilNext 21 = .ok (.aload_n 0, 1) := by decide +kernel
theorem dX5_bytesUntilNext_22 : decode cX5_bytesUntilNext 22 = .ok (.getfield 21, 3) := by decide +kernel
theorem dX5_bytesUntilNext_25 : decode cX5_bytesUntilNext 25 = .ok (.getfield 119, 3) := by decide +kernel
theorem dX5_bytesUntilNext_28 : decode cX5_bytesUntilNext 28 = .ok (.aload_n 0, 1) := by decide +kernel
theorem dX5_bytesUntilNext_29 : decode cX5_bytesUntilNext 29 = .ok (.getfield 45, 3) := by decide +kernel
theorem dX5_bytesUntilNext_32 : decode cX5_bytesUntilNext 32 = .ok (.aload_n 0, 1) := by decide +kernel
theorem dX5_bytesUntilNext_33 : decode cX5_bytesUntilNext 33 = .ok (.getfield 29, 3) := by decide +kernel
theorem dX5_bytesUntilNext_36 : decode cX5_bytesUntilNext 36 = .ok (.getfield 101, 3) := by decide +kernel
theorem dX5_bytesUntilNext_39 : decode cX5_bytesUntilNext 39 = .ok (.iload_n 1, 1) := by decide +kernel
theorem dX5_bytesUntilNext_40 : decode cX5_bytesUntilNext 40 = .ok (.iconst 1, 1) := by decide +kernel
theorem dX5_bytesUntilNext_41 : decode cX5_bytesUntilNext 41 = .ok (.iadd, 1) := by decide +kernel
theorem dX5_bytesUntilNext_42 : decode cX5_bytesUntilNext 42 = .ok (.iaload, 1) := by decide +kernel
theorem dX5_bytesUntilNext_43 : decode cX5_bytesUntilNext 43 = .ok (.aload_n 0, 1) := by decide +kernel
theorem dX5_bytesUntilNext_44 : decode cX5_bytesUntilNext 44 = .ok (.getfield 29, 3) := by decide +kernel
theorem dX5_bytesUntilNext_47 : decode cX5_bytesUntilNext 47 = .ok (.getfield 101, 3) := by decide +kernel
theorem dX5_bytesUntilNext_50 : decode cX5_bytesUntilNext 50 = .ok (.iload_n 1, 1) := by decide +kernel
theorem dX5_bytesUntilNext_51 : decode cX5_bytesUntilNext 51 = .ok (.iaload, 1) := by decide +kernel
theorem dX5_bytesUntilNext_52 : decode cX5_bytesUntilNext 52 = .ok (.isub, 1) := by decide +kernel
theorem dX5_bytesUntilNext_53 : decode cX5_bytesUntilNext 53 = .ok (.imul, 1) := by decide +kernel
theorem dX5_bytesUntilNext_54 : decode cX5_bytesUntilNext 54 = .ok (.invokestatic 104, 3) := by decide +kernel
theorem dX5_bytesUntilNext_57 : decode cX5_bytesUntilNext 57 = .ok (.ireturn, 1) := by decide +kernel
theorem dX5_serveBehind_0 : decode cX5_serveBehind 0 = .ok (.aload_n 0, 1) := by decide +kernel
theorem dX5_serveBehind_1 : decode cX5_serveBehind 1 = .ok (.getfield 29, 3) := by decide +kernel
theorem dX5_serveBehind_4 : decode cX5_serveBehind 4 = .ok (.getfield 101, 3) := by decide +kernel
theorem dX5_serveBehind_7 : decode cX5_serveBehind 7 = .ok (.iload_n 1, 1) := by decide +kernel
theorem dX5_serveBehind_8 : decode cX5_serveBehind 8 = .ok (.iaload, 1) := by decide +kernel
theorem dX5_serveBehind_9 : decode cX5_serveBehind 9 = .ok (.istore_n 2, 1) := by decide +kernel
theorem dX5_serveBehind_10 : decode cX5_serveBehind 10 = .ok (.aload_n 0, 1) := by decide +kernel
theorem dX5_serveBehind_11 : decode cX5_serveBehind 11 = .ok (.iload_n 1, 1) := by decide +kernel
theorem dX5_serveBehind_12 : decode cX5_serveBehind 12 = .ok (.invokevirtual 157, 3) := by decide +kernel
theorem dX5_serveBehind_15 : decode cX5_serveBehind 15 = .ok (.istore_n 3, 1) := by decide +kernel
theorem dX5_serveBehind_16 : decode cX5_serveBehind 16 = .ok (.aload_n 0, 1) := by decide +kernel
theorem dX5_serveBehind_17 : decode cX5_serveBehind 17 = .ok (.getfield 12, 3) := by decide +kernel
theorem dX5_serveBehind_20 : decode cX5_serveBehind 20 = .ok (.iload_n 2, 1) := by decide +kernel
theorem dX5_serveBehind_21 : decode cX5_serveBehind 21 = .ok (.iconst 0, 1) := by decide +kernel
theorem dX5_serveBehind_22 : decode cX5_serveBehind 22 = .ok (.aload_n 0, 1) := by decide +kernel
theorem dX5_serveBehind_23 : decode cX5_serveBehind 23 = .ok (.getfield 21, 3) := by decide +kernel
theorem dX5_serveBehind_26 : decode cX5_serveBehind 26 = .ok (.getfield 119, 3) := by decide +kernel
theorem dX5_serveBehind_29 : decode cX5_serveBehind 29 = .ok (.aload_n 0, 1) := by decide +kernel
theorem dX5_serveBehind_30 : decode cX5_serveBehind 30 = .ok (.getfield 45, 3) := by decide +kernel
theorem dX5_serveBehind_33 : decode cX5_serveBehind 33 = .ok (.isub, 1) := by decide +kernel
theorem dX5_serveBehind_34 : decode cX5_serveBehind 34 = .ok (.invokestatic 160, 3) := by decide +kernel
theorem dX5_serveBehind_37 : decode cX5_serveBehind 37 = .ok (.invokevirtual 163, 3) := by decide +kernel
theorem dX5_serveBehind_40 : decode cX5_serveBehind 40 = .ok (.iconst 0, 1) := by decide +kernel
theorem dX5_serveBehind_41 : decode cX5_serveBehind 41 = .ok (.istore 4, 2) := by decide +kernel
theorem dX5_serveBehind_43 : decode cX5_serveBehind 43 = .ok (.iconst 0, 1) := by decide +kernel
theorem dX5_serveBehind_44 : decode cX5_serveBehind 44 = .ok (.istore 5, 2) := by decide +kernel
theorem dX5_serveBehind_46 : decode cX5_serveBehind 46 = .ok (.iload 5, 2) := by decide +kernel
theorem dX5_serveBehind_48 : decode cX5_serveBehind 48 = .ok (.bipush 40, 2) := by decide +kernel
theorem dX5_serveBehind_50 : decode cX5_serveBehind 50 = .ok (.if_icmp .ge 103, 3) := by decide +kernel
theorem dX5_serveBehind_53 : decode cX5_serveBehind 53 = .ok (.iload 4, 2) := by decide +kernel
theorem dX5_serveBehind_55 : decode cX5_serveBehind 55 = .ok (.iload_n 3, 1) := by decide +kernel
theorem dX5_serveBehind_56 : decode cX5_serveBehind 56 = .ok (.if_icmp .ge 97, 3) := by decide +kernel
theorem dX5_serveBehind_59 : decode cX5_serveBehind 59 = .ok (.aload_n 0, 1) := by decide +kernel
theorem dX5_serveBehind_60 : decode cX5_serveBehind 60 = .ok (.invokevirtual 166, 3) := by decide +kernel
theorem dX5_serveBehind_63 : decode cX5_serveBehind 63 = .ok (.istore 6, 2) := by decide +kernel
theorem dX5_serveBehind_65 : decode cX5_serveBehind 65 = .ok (.iload 6, 2) := by decide +kernel
theorem dX5_serveBehind_67 : decode cX5_serveBehind 67 = .ok (.iconst (-1), 1) := by decide +kernel
theorem dX5_serveBehind_68 : decode cX5_serveBehind 68 = .ok (.if_icmp .ne 4, 3) := by decide +kernel
theorem dX5_serveBehind_71 : decode cX5_serveBehind 71 = .ok (.return_, 1) := by decide +kernel
theorem dX5_serveBehind_72 : decode cX5_serveBehind 72 = .ok (.aload_n 0, 1) := by decide +kernel
theorem dX5_serveBehind_73 : decode cX5_serveBehind 73 = .ok (.getfield 21, 3) := by decide +kernel
theorem dX5_serveBehind_76 : decode cX5_serveBehind 76 = .ok (.getfield 145, 3) := by decide +kernel
theorem dX5_serveBehind_79 : decode cX5_serveBehind 79 = .ok (.iload 6, 2) := by decide +kernel
theorem dX5_serveBehind_81 : decode cX5_serveBehind 81 = .ok (.iaload, 1) := by decide +kernel
theorem dX5_serveBehind_82 : decode cX5_serveBehind 82 = .ok (.istore 7, 2) := by decide +kernel
theorem dX5_serveBehind_84 : decode cX5_serveBehind 84 = .ok (.aload_n 0, 1) := by decide +kernel
theorem dX5_serveBehind_85 : decode cX5_serveBehind 85 = .ok (.getfield 21, 3) := by decide +kernel
theorem dX5_serveBehind_88 : decode cX5_serveBehind 88 = .ok (.getfield 151, 3) := by decide +kernel
theorem dX5_serveBehind_91 : decode cX5_serveBehind 91 = .ok (.iload 7, 2) := by decide +kernel
theorem dX5_serveBehind_93 : decode cX5_serveBehind 93 = .ok (.iaload, 1) := by decide +kernel
theorem dX5_serveBehind_94 : decode cX5_serveBehind 94 = .ok (.iload_n 3, 1) := by decide +kernel
theorem dX5_serveBehind_95 : decode cX5_serveBehind 95 = .ok (.iload 4, 2) := by decide +kernel
theorem dX5_serveBehind_97 : decode cX5_serveBehind 97 = .ok (.isub, 1) := by decide +kernel
theorem dX5_serveBehind_98 : decode cX5_serveBehind 98 = .ok (.invokestatic 104, 3) := by decide +kernel
theorem dX5_serveBehind_101 : decode cX5_serveBehind 101 = .ok (.istore 8, 2) := by decide +kernel
theorem dX5_serveBehind_103 : decode cX5_serveBehind 103 = .ok (.iload 4, 2) := by decide +kernel
theorem dX5_serveBehind_105 : decode cX5_serveBehind 105 = .ok (.iload 8, 2) := by decide +kernel
theorem dX5_serveBehind_107 : decode cX5_serveBehind 107 = .ok (.iadd, 1) := by decide +kernel
theorem dX5_serveBehind_108 : decode cX5_serveBehind 108 = .ok (.istore 4, 2) := by decide +kernel
theorem dX5_serveBehind_110 : decode cX5_serveBehind 110 = .ok (.aload_n 0, 1) := by decide +kernel
theorem dX5_serveBehind_111 : decode cX5_serveBehind 111 = .ok (.getfield 21, 3) := by decide +kernel
theorem dX5_serveBehind_114 : decode cX5_serveBehind 114 = .ok (.iload 6, 2) := by decide +kernel
theorem dX5_serveBehind_116 : decode cX5_serveBehind 116 = .ok (.iload 8, 2) := by decide +kernel
theorem dX5_serveBehind_118 : decode cX5_serveBehind 118 = .ok (.invokevirtual 169, 3) := by decide +kernel
theorem dX5_serveBehind_121 : decode cX5_serveBehind 121 = .ok (.ifCond .eq 26, 3) := by decide +kernel
theorem dX5_serveBehind_124 : decode cX5_serveBehind 124 = .ok (.aload_n 0, 1) := by decide +kernel
theorem dX5_serveBehind_125 : decode cX5_serveBehind 125 = .ok (.getfield 12, 3) := by decide +kernel
theorem dX5_serveBehind_128 : decode cX5_serveBehind 128 = .ok (.getfield 71, 3) := by decide +kernel
theorem dX5_serveBehind_131 : decode cX5_serveBehind 131 = .ok (.iload 7, 2) := by decide +kernel
theorem dX5_serveBehind_133 : decode cX5_serveBehind 133 = .ok (.iload_n 2, 1) := by decide +kernel
theorem dX5_serveBehind_134 : decode cX5_serveBehind 134 = .ok (.iload 4, 2) := by decide +kernel
theorem dX5_serveBehind_136 : decode cX5_serveBehind 136 = .ok (.iconst 1, 1) := by decide +kernel
theorem dX5_serveBehind_137 : decode cX5_serveBehind 137 = .ok (.isub, 1) := by decide +kernel
theorem dX5_serveBehind_138 : decode cX5_serveBehind 138 = .ok (.aload_n 0, 1) := by decide +kernel
theorem dX5_serveBehind_139 : decode cX5_serveBehind 139 = .ok (.getfield 45, 3) := by decide +kernel
theorem dX5_serveBehind_142 : decode cX5_serveBehind 142 = .ok (.invokestatic 154, 3) := by decide +kernel
theorem dX5_serveBehind_145 : decode cX5_serveBehind 145 = .ok (.iadd, 1) := by decide +kernel
theorem dX5_serveBehind_146 : decode cX5_serveBehind 146 = .ok (.iastore, 1) := by decide +kernel
theorem dX5_serveBehind_147 : decode cX5_serveBehind 147 = .ok (.iinc 5 1, 3) := by decide +kernel
theorem dX5_serveBehind_150 : decode cX5_serveBehind 150 = .ok (.goto (-104), 3) := by decide +kernel
theorem dX5_serveBehind_153 : decode cX5_serveBehind 153 = .ok (.return_, 1) := by decide +kernel
theorem dX5_chosenPosition_0 : decode cX5_chosenPosition 0 = .ok (.aload_n 0, 1) := by decide +kernel
theorem dX5_chosenPosition_1 : decode cX5_chosenPosition 1 = .ok (.getfield 21, 3) := by decide +kernel
theorem dX5_chosenPosition_4 : decode cX5_chosenPosition 4 = .ok (.getfield 148, 3) := by decide +kernel
theorem dX5_chosenPosition_7 : decode cX5_chosenPosition 7 = .ok (.iconst (-1), 1) := by decide +kernel
theorem dX5_chosenPosition_8 : decode cX5_chosenPosition 8 = .ok (.if_icmp .eq 11, 3) := by decide +kernel
theorem dX5_chosenPosition_11 : decode cX5_chosenPosition 11 = .ok (.aload_n 0, 1) := by decide +kernel
theorem dX5_chosenPosition_12 : decode cX5_chosenPosition 12 = .ok (.getfield 21, 3) := by decide +kernel
theorem dX5_chosenPosition_15 : decode cX5_chosenPosition 15 = .ok (.invokevirtual 172, 3) := by decide +kernel
theorem dX5_chosenPosition_18 : decode cX5_chosenPosition 18 = .ok (.ireturn, 1) := by decide +kernel
theorem dX5_chosenPosition_19 : decode cX5_chosenPosition 19 = .ok (.aload_n 0, 1) := by decide +kernel
theorem dX5_chosenPosition_20 : decode cX5_chosenPosition 20 = .ok (.getfield 21, 3) := by decide +kernel
theorem dX5_chosenPosition_23 : decode cX5_chosenPosition 23 = .ok (.getfield 142, 3) := by decide +kernel
theorem dX5_chosenPosition_26 : decode cX5_chosenPosition 26 = .ok (.ifCond .ne 5, 3) := by decide +kernel
theorem dX5_chosenPosition_29 : decode cX5_chosenPosition 29 = .ok (.iconst (-1), 1) := by decide +kernel
theorem dX5_chosenPosition_30 : decode cX5_chosenPosition 30 = .ok (.ireturn, 1) := by decide +kernel
theorem dX5_chosenPosition_31 : decode cX5_chosenPosition 31 = .ok (.aload_n 0, 1) := by decide +kernel
theorem dX5_chosenPosition_32 : decode cX5_chosenPosition 32 = .ok (.getfield 29, 3) := by decide +kernel
theorem dX5_chosenPosition_35 : decode cX5_chosenPosition 35 = .ok (.getfield 40, 3) := by decide +kernel
theorem dX5_chosenPosition_38 : decode cX5_chosenPosition 38 = .ok (.iconst 3, 1) := by decide +kernel
theorem dX5_chosenPosition_39 : decode cX5_chosenPosition 39 = .ok (.iaload, 1) := by decide +kernel
theorem dX5_chosenPosition_40 : decode cX5_chosenPosition 40 = .ok (.ifCond .ne 5, 3) := by decide +kernel
theorem dX5_chosenPosition_43 : decode cX5_chosenPosition 43 = .ok (.iconst 0, 1) := by decide +kernel
theorem dX5_chosenPosition_44 : decode cX5_chosenPosition 44 = .ok (.ireturn, 1) := by decide +kernel
theorem dX5_chosenPosition_45 : decode cX5_chosenPosition 45 = .ok (.iconst 0, 1) := by decide +kernel
theorem dX5_chosenPosition_46 : decode cX5_chosenPosition 46 = .ok (.istore_n 1, 1) := by decide +kernel
theorem dX5_chosenPosition_47 : decode cX5_chosenPosition 47 = .ok (.aload_n 0, 1) := by decide +kernel
theorem dX5_chosenPosition_48 : decode cX5_chosenPosition 48 = .ok (.aload_n 0, 1) := by decide +kernel
theorem dX5_chosenPosition_49 : decode cX5_chosenPosition 49 = .ok (.getfield 29, 3) := by decide +kernel
theorem dX5_chosenPosition_52 : decode cX5_chosenPosition 52 = .ok (.getfield 64, 3) := by decide +kernel
theorem dX5_chosenPosition_55 : decode cX5_chosenPosition 55 = .ok (.aload_n 0, 1) := by decide +kernel
theorem dX5_chosenPosition_56 : decode cX5_chosenPosition 56 = .ok (.getfield 21, 3) := by decide +kernel
theorem dX5_chosenPosition_59 : decode cX5_chosenPosition 59 = .ok (.getfield 145, 3) := by decide +kernel
theorem dX5_chosenPosition_62 : decode cX5_chosenPosition 62 = .ok (.iconst 0, 1) := by decide +kernel
theorem dX5_chosenPosition_63 : decode cX5_chosenPosition 63 = .ok (.iaload, 1) := by decide +kernel
theorem dX5_chosenPosition_64 : decode cX5_chosenPosition 64 = .ok (.iaload, 1) := by decide +kernel
theorem dX5_chosenPosition_65 : decode cX5_chosenPosition 65 = .ok (.invokevirtual 175, 3) := by decide +kernel
theorem dX5_chosenPosition_68 : decode cX5_chosenPosition 68 = .ok (.istore_n 2, 1) := by decide +kernel
theorem dX5_chosenPosition_69 : decode cX5_chosenPosition 69 = .ok (.iconst 1, 1) := by decide +kernel
theorem dX5_chosenPosition_70 : decode cX5_chosenPosition 70 = .ok (.istore_n 3, 1) := by decide +kernel
theorem dX5_chosenPosition_71 : decode cX5_chosenPosition 71 = .ok (.iload_n 3, 1) := by decide +kernel
theorem dX5_chosenPosition_72 : decode cX5_chosenPosition 72 = .ok (.aload_n 0, 1) := by decide +kernel
theorem dX5_chosenPosition_73 : decode cX5_chosenPosition 73 = .ok (.getfield 21, 3) := by decide +kernel
theorem dX5_chosenPosition_76 : decode cX5_chosenPosition 76 = .ok (.getfield 142, 3) := by decide +kernel
theorem dX5_chosenPosition_79 : decode cX5_chosenPosition 79 = .ok (.if_icmp .ge 43, 3) := by decide +kernel
theorem dX5_chosenPosition_82 : decode cX5_chosenPosition 82 = .ok (.aload_n 0, 1) := by decide +kernel
theorem dX5_chosenPosition_83 : decode cX5_chosenPosition 83 = .ok (.aload_n 0, 1) := by decide +kernel
theorem dX5_chosenPosition_84 : decode cX5_chosenPosition 84 = .ok (.getfield 29, 3) := by decide +kernel
theorem dX5_chosenPosition_87 : decode cX5_chosenPosition 87 = .ok (.getfield 64, 3) := by decide +kernel
theorem dX5_chosenPosition_90 : decode cX5_chosenPosition 90 = .ok (.aload_n 0, 1) := by decide +kernel
theorem dX5_chosenPosition_91 : decode cX5_chosenPosition 91 = .ok (.getfield 21, 3) := by decide +kernel
theorem dX5_chosenPosition_94 : decode cX5_chosenPosition 94 = .ok (.getfield 145, 3) := by decide +kernel
theorem dX5_chosenPosition_97 : decode cX5_chosenPosition 97 = .ok (.iload_n 3, 1) := by decide +kernel
theorem dX5_chosenPosition_98 : decode cX5_chosenPosition 98 = .ok (.iaload, 1) := by decide +kernel
theorem dX5_chosenPosition_99 : decode cX5_chosenPosition 99 = .ok (.iaload, 1) := by decide +kernel
theorem dX5_chosenPosition_100 : decode cX5_chosenPosition 100 = .ok (.invokevirtual 175, 3) := by decide +kernel
theorem dX5_chosenPosition_103 : decode cX5_chosenPosition 103 = .ok (.istore 4, 2) := by decide +kernel
theorem dX5_chosenPosition_105 : decode cX5_chosenPosition 105 = .ok (.iload 4, 2) := by decide +kernel
theorem dX5_chosenPosition_107 : decode cX5_chosenPosition 107 = .ok (.iload_n 2, 1) := by decide +kernel
theorem dX5_chosenPosition_108 : decode cX5_chosenPosition 108 = .ok (.if_icmp .ge 8, 3) := by decide +kernel
theorem dX5_chosenPosition_111 : decode cX5_chosenPosition 111 = .ok (.iload_n 3, 1) := by decide +kernel
theorem dX5_chosenPosition_112 : decode cX5_chosenPosition 112 = .ok (.istore_n 1, 1) := by decide +kernel
theorem dX5_chosenPosition_113 : decode cX5_chosenPosition 113 = .ok (.iload 4, 2) := by decide +kernel
theorem dX5_chosenPosition_115 : decode cX5_chosenPosition 115 = .ok (.istore_n 2, 1) := by decide +kernel
theorem dX5_chosenPosition_116 : decode cX5_chosenPosition 116 = .ok (.iinc 3 1, 3) := by decide +kernel
theorem dX5_chosenPosition_119 : decode cX5_chosenPosition 119 = .ok (.goto (-48), 3) := by decide +kernel
theorem dX5_chosenPosition_122 : decode cX5_chosenPosition 122 = .ok (.aload_n 0, 1) := by decide +kernel
theorem dX5_chosenPosition_123 : decode cX5_chosenPosition 123 = .ok (.aload_n 0, 1) := by decide +kernel
theorem dX5_chosenPosition_124 : decode cX5_chosenPosition 124 = .ok (.getfield 29, 3) := by decide +kernel
theorem dX5_chosenPosition_127 : decode cX5_chosenPosition 127 = .ok (.getfield 64, 3) := by decide +kernel
theorem dX5_chosenPosition_130 : decode cX5_chosenPosition 130 = .ok (.aload_n 0, 1) := by decide +kernel
theorem dX5_chosenPosition_131 : decode cX5_chosenPosition 131 = .ok (.getfield 21, 3) := by decide +kernel
theorem dX5_chosenPosition_134 : decode cX5_chosenPosition 134 = .ok (.getfield 145, 3) := by decide +kernel
theorem dX5_chosenPosition_137 : decode cX5_chosenPosition 137 = .ok (.iload_n 1, 1) := by decide +kernel
theorem dX5_chosenPosition_138 : decode cX5_chosenPosition 138 = .ok (.iaload, 1) := by decide +kernel
theorem dX5_chosenPosition_139 : decode cX5_chosenPosition 139 = .ok (.iaload, 1) := by decide +kernel
theorem dX5_chosenPosition_140 : decode cX5_chosenPosition 140 = .ok (.putfield 51, 3) := by decide +kernel
theorem dX5_chosenPosition_143 : decode cX5_chosenPosition 143 = .ok (.iload_n 1, 1) := by decide +kernel
theorem dX5_chosenPosition_144 : decode cX5_chosenPosition 144 = .ok (.ireturn, 1) := by decide +kernel
theorem dX5_turnOf_0 : decode cX5_turnOf 0 = .ok (.aload_n 0, 1) := by decide +kernel
theorem dX5_turnOf_1 : decode cX5_turnOf 1 = .ok (.getfield 29, 3) := by decide +kernel
theorem dX5_turnOf_4 : decode cX5_turnOf 4 = .ok (.getfield 40, 3) := by decide +kernel
theorem dX5_turnOf_7 : decode cX5_turnOf 7 = .ok (.iconst 3, 1) := by decide +kernel
theorem dX5_turnOf_8 : decode cX5_turnOf 8 = .ok (.iaload, 1) := by decide +kernel
theorem dX5_turnOf_9 : decode cX5_turnOf 9 = .ok (.iconst 1, 1) := by decide +kernel
theorem dX5_turnOf_10 : decode cX5_turnOf 10 = .ok (.if_icmp .ne 21, 3) := by decide +kernel
theorem dX5_turnOf_13 : decode cX5_turnOf 13 = .ok (.aload_n 0, 1) := by decide +kernel
theorem dX5_turnOf_14 : decode cX5_turnOf 14 = .ok (.getfield 29, 3) := by decide +kernel
theorem dX5_turnOf_17 : decode cX5_turnOf 17 = .ok (.getfield 40, 3) := by decide +kernel
theorem dX5_turnOf_20 : decode cX5_turnOf 20 = .ok (.bipush 8, 2) := by decide +kernel
theorem dX5_turnOf_22 : decode cX5_turnOf 22 = .ok (.iload_n 1, 1) := by decide +kernel
theorem dX5_turnOf_23 : decode cX5_turnOf 23 = .ok (.iadd, 1) := by decide +kernel
theorem dX5_turnOf_24 : decode cX5_turnOf 24 = .ok (.iaload, 1) := by decide +kernel
theorem dX5_turnOf_25 : decode cX5_turnOf 25 = .ok (.bipush 6, 2) := by decide +kernel
theorem dX5_turnOf_27 : decode cX5_turnOf 27 = .ok (.imul, 1) := by decide +kernel
theorem dX5_turnOf_28 : decode cX5_turnOf 28 = .ok (.iload_n 1, 1) := by decide +kernel
theorem dX5_turnOf_29 : decode cX5_turnOf 29 = .ok (.iadd, 1) := by decide +kernel
theorem dX5_turnOf_30 : decode cX5_turnOf 30 = .ok (.ireturn, 1) := by decide +kernel
theorem dX5_turnOf_31 : decode cX5_turnOf 31 = .ok (.iload_n 1, 1) := by decide +kernel
theorem dX5_turnOf_32 : decode cX5_turnOf 32 = .ok (.aload_n 0, 1) := by decide +kernel
theorem dX5_turnOf_33 : decode cX5_turnOf 33 = .ok (.getfield 51, 3) := by decide +kernel
theorem dX5_turnOf_36 : decode cX5_turnOf 36 = .ok (.if_icmp .le 12, 3) := by decide +kernel
theorem dX5_turnOf_39 : decode cX5_turnOf 39 = .ok (.iload_n 1, 1) := by decide +kernel
theorem dX5_turnOf_40 : decode cX5_turnOf 40 = .ok (.aload_n 0, 1) := by decide +kernel
theorem dX5_turnOf_41 : decode cX5_turnOf 41 = .ok (.getfield 51, 3) := by decide +kernel
theorem dX5_turnOf_44 : decode cX5_turnOf 44 = .ok (.isub, 1) := by decide +kernel
theorem dX5_turnOf_45 : decode cX5_turnOf 45 = .ok (.goto 12, 3) := by decide +kernel
theorem dX5_turnOf_48 : decode cX5_turnOf 48 = .ok (.iload_n 1, 1) := by decide +kernel
theorem dX5_turnOf_49 : decode cX5_turnOf 49 = .ok (.aload_n 0, 1) := by decide +kernel
theorem dX5_turnOf_50 : decode cX5_turnOf 50 = .ok (.getfield 51, 3) := by decide +kernel
theorem dX5_turnOf_53 : decode cX5_turnOf 53 = .ok (.isub, 1) := by decide +kernel
theorem dX5_turnOf_54 : decode cX5_turnOf 54 = .ok (.bipush 6, 2) := by decide +kernel
theorem dX5_turnOf_56 : decode cX5_turnOf 56 = .ok (.iadd, 1) := by decide +kernel
theorem dX5_turnOf_57 : decode cX5_turnOf 57 = .ok (.ireturn, 1) := by decide +kernel
theorem dX6_init_0 : decode cX6_init 0 = .ok (.aload_n 0, 1) := by decide +kernel
theorem dX6_init_1 : decode cX6_init 1 = .ok (.invokespecial 3, 3) := by decide +kernel
theorem dX6_init_4 : decode cX6_init 4 = .ok (.aload_n 0, 1) := by decide +kernel
theorem dX6_init_5 : decode cX6_init 5 = .ok (.bipush 120, 2) := by decide +kernel
theorem dX6_init_7 : decode cX6_init 7 = .ok (.newarray .int, 2) := by decide +kernel
theorem dX6_init_9 : decode cX6_init 9 = .ok (.putfield 9, 3) := by decide +kernel
theorem dX6_init_12 : decode cX6_init 12 = .ok (.aload_n 0, 1) := by decide +kernel
theorem dX6_init_13 : decode cX6_init 13 = .ok (.bipush 120, 2) := by decide +kernel
theorem dX6_init_15 : decode cX6_init 15 = .ok (.anewarray 15, 3) := by decide +kernel
theorem dX6_init_18 : decode cX6_init 18 = .ok (.putfield 17, 3) := by decide +kernel
theorem dX6_init_21 : decode cX6_init 21 = .ok (.aload_n 0, 1) := by decide +kernel
theorem dX6_init_22 : decode cX6_init 22 = .ok (.sipush 360, 3) := by decide +kernel
theorem dX6_init_25 : decode cX6_init 25 = .ok (.newarray .int, 2) := by decide +kernel
theorem dX6_init_27 : decode cX6_init 27 = .ok (.putfield 21, 3) := by decide +kernel
theorem dX6_init_30 : decode cX6_init 30 = .ok (.return_, 1) := by decide +kernel
theorem dX6_isFull_0 : decode cX6_isFull 0 = .ok (.aload_n 0, 1) := by decide +kernel
theorem dX6_isFull_1 : decode cX6_isFull 1 = .ok (.getfield 24, 3) := by decide +kernel
theorem dX6_isFull_4 : decode cX6_isFull 4 = .ok (.bipush 120, 2) := by decide +kernel
theorem dX6_isFull_6 : decode cX6_isFull 6 = .ok (.if_icmp .lt 7, 3) := by decide +kernel
theorem dX6_isFull_9 : decode cX6_isFull 9 = .ok (.iconst 1, 1) := by decide +kernel
theorem dX6_isFull_10 : decode cX6_isFull 10 = .ok (.goto 4, 3) := by decide +kernel
theorem dX6_isFull_13 : decode cX6_isFull 13 = .ok (.iconst 0, 1) := by decide +kernel
theorem dX6_isFull_14 : decode cX6_isFull 14 = .ok (.ireturn, 1) := by decide +kernel
theorem dX6_append_0 : decode cX6_append 0 = .ok (.aload_n 0, 1) := by decide +kernel
theorem dX6_append_1 : decode cX6_append 1 = .ok (.invokevirtual 28, 3) := by decide +kernel
theorem dX6_append_4 : decode cX6_append 4 = .ok (.ifCond .ne 23, 3) := by decide +kernel
theorem dX6_append_7 : decode cX6_append 7 = .ok (.aload_n 0, 1) := by decide +kernel
theorem dX6_append_8 : decode cX6_append 8 = .ok (.getfield 9, 3) := by decide +kernel
theorem dX6_append_11 : decode cX6_append 11 = .ok (.aload_n 0, 1) := by decide +kernel
theorem dX6_append_12 : decode cX6_append 12 = .ok (.getfield 24, 3) := by decide +kernel
theorem dX6_append_15 : decode cX6_append 15 = .ok (.iload_n 1, 1) := by decide +kernel
theorem dX6_append_16 : decode cX6_append 16 = .ok (.iastore, 1) := by decide +kernel
theorem dX6_append_17 : decode cX6_append 17 = .ok (.aload_n 0, 1) := by decide +kernel
theorem dX6_append_18 : decode cX6_append 18 = .ok (.dup, 1) := by decide +kernel
theorem dX6_append_19 : decode cX6_append 19 = .ok (.getfield 24, 3) := by decide +kernel
theorem dX6_append_22 : decode cX6_append 22 = .ok (.iconst 1, 1) := by decide +kernel
theorem dX6_append_23 : decode cX6_append 23 = .ok (.iadd, 1) := by decide +kernel
theorem dX6_append_24 : decode cX6_append 24 = .ok (.putfield 24, 3) := by decide +kernel
theorem dX6_append_27 : decode cX6_append 27 = .ok (.return_, 1) := by decide +kernel
theorem dX6_parse_0 : decode cX6_parse 0 = .ok (.aload_n 0, 1) := by decide +kernel
theorem dX6_parse_1 : decode cX6_parse 1 = .ok (.iconst 0, 1) := by decide +kernel
theorem dX6_parse_2 : decode cX6_parse 2 = .ok (.putfield 32, 3) := by decide +kernel
theorem dX6_parse_5 : decode cX6_parse 5 = .ok (.aconst_null, 1) := by decide +kernel
theorem dX6_parse_6 : decode cX6_parse 6 = .ok (.astore_n 1, 1) := by decide +kernel
theorem dX6_parse_7 : decode cX6_parse 7 = .ok (.iconst 0, 1) := by decide +kernel
theorem dX6_parse_8 : decode cX6_parse 8 = .ok (.istore_n 2, 1) := by decide +kernel
theorem dX6_parse_9 : decode cX6_parse 9 = .ok (.iconst 0, 1) := by decide +kernel
theorem dX6_parse_10 : decode cX6_parse 10 = .ok (.istore_n 3, 1) := by decide +kernel
theorem dX6_parse_11 : decode cX6_parse 11 = .ok (.iconst 0, 1) := by decide +kernel
theorem dX6_parse_12 : decode cX6_parse 12 = .ok (.istore 4, 2) := by decide +kernel
theorem dX6_parse_14 : decode cX6_parse 14 = .ok (.iload 4, 2) := by decide +kernel
theorem dX6_parse_16 : decode cX6_parse 16 = .ok (.aload_n 0, 1) := by decide +kernel
theorem dX6_parse_17 : decode cX6_parse 17 = .ok (.getfield 24, 3) := by decide +kernel
theorem dX6_parse_20 : decode cX6_parse 20 = .ok (.if_icmp .ge 158, 3) := by decide +kernel
theorem dX6_parse_23 : decode cX6_parse 23 = .ok (.aload_n 0, 1) := by decide +kernel
theorem dX6_parse_24 : decode cX6_parse 24 = .ok (.getfield 9, 3) := by decide +kernel
theorem dX6_parse_27 : decode cX6_parse 27 = .ok (.iload 4, 2) := by decide +kernel
theorem dX6_parse_29 : decode cX6_parse 29 = .ok (.iaload, 1) := by decide +kernel
theorem dX6_parse_30 : decode cX6_parse 30 = .ok (.invokestatic 35, 3) := by decide +kernel
theorem dX6_parse_33 : decode cX6_parse 33 = .ok (.istore 5, 2) := by decide +kernel
theorem dX6_parse_35 : decode cX6_parse 35 = .ok (.aload_n 0, 1) := by decide +kernel
theorem dX6_parse_36 : decode cX6_parse 36 = .ok (.iload 4, 2) := by decide +kernel
theorem dX6_parse_38 : decode cX6_parse 38 = .ok (.iload 5, 2) := by decide +kernel
theorem dX6_parse_40 : decode cX6_parse 40 = .ok (.invokevirtual 39, 3) := by decide +kernel
theorem dX6_parse_43 : decode cX6_parse 43 = .ok (.istore_n 3, 1) := by decide +kernel
theorem dX6_parse_44 : decode cX6_parse 44 = .ok (.iload 5, 2) := by decide +kernel
theorem dX6_parse_46 : decode cX6_parse 46 = .ok (.ifCond .ne 6, 3) := by decide +kernel
theorem dX6_parse_49 : decode cX6_parse 49 = .ok (.goto 116, 3) := by decide +kernel
theorem dX6_parse_52 : decode cX6_parse 52 = .ok (.aload_n 1, 1) := by decide +kernel
theorem dX6_parse_53 : decode cX6_parse 53 = .ok (.ifnonnull 30, 3) := by decide +kernel
theorem dX6_parse_56 : decode cX6_parse 56 = .ok (.iload 5, 2) := by decide +kernel
theorem dX6_parse_58 : decode cX6_parse 58 = .ok (.iconst 1, 1) := by decide +kernel
theorem dX6_parse_59 : decode cX6_parse 59 = .ok (.if_icmp .ne 13, 3) := by decide +kernel
theorem dX6_parse_62 : decode cX6_parse 62 = .ok (.aload_n 0, 1) := by decide +kernel
theorem dX6_parse_63 : decode cX6_parse 63 = .ok (.iload 4, 2) := by decide +kernel
theorem dX6_parse_65 : decode cX6_parse 65 = .ok (.iload_n 3, 1) := by decide +kernel
theorem dX6_parse_66 : decode cX6_parse 66 = .ok (.invokevirtual 43, 3) := by decide +kernel
theorem dX6_parse_69 : decode cX6_parse 69 = .ok (.goto 4, 3) := by decide +kernel
theorem dX6_parse_72 : decode cX6_parse 72 = .ok (.aconst_null, 1) := by decide +kernel
theorem dX6_parse_73 : decode cX6_parse 73 = .ok (.astore_n 1, 1) := by decide +kernel
theorem dX6_parse_74 : decode cX6_parse 74 = .ok (.iconst 0, 1) := by decide +kernel
theorem dX6_parse_75 : decode cX6_parse 75 = .ok (.istore_n 2, 1) := by decide +kernel
theorem dX6_parse_76 : decode cX6_parse 76 = .ok (.aload_n 1, 1) := by decide +kernel
theorem dX6_parse_77 : decode cX6_parse 77 = .ok (.ifnonnull 88, 3) := by decide +kernel
theorem dX6_parse_80 : decode cX6_parse 80 = .ok (.iload 4, 2) := by decide +kernel
theorem dX6_parse_82 : decode cX6_parse 82 = .ok (.ireturn, 1) := by decide +kernel
theorem dX6_parse_83 : decode cX6_parse 83 = .ok (.iload_n 2, 1) := by decide +kernel
theorem dX6_parse_84 : decode cX6_parse 84 = .ok (.aload_n 1, 1) := by decide +kernel
theorem dX6_parse_85 : decode cX6_parse 85 = .ok (.getfield 47, 3) := by decide +kernel
theorem dX6_parse_88 : decode cX6_parse 88 = .ok (.if_icmp .ge 46, 3) := by decide +kernel
theorem dX6_parse_91 : decode cX6_parse 91 = .ok (.iload 5, 2) := by decide +kernel
theorem dX6_parse_93 : decode cX6_parse 93 = .ok (.iconst 2, 1) := by decide +kernel
theorem dX6_parse_94 : decode cX6_parse 94 = .ok (.if_icmp .ne 11, 3) := by decide +kernel
theorem dX6_parse_97 : decode cX6_parse 97 = .ok (.iload_n 3, 1) := by decide +kernel
theorem dX6_parse_98 : decode cX6_parse 98 = .ok (.iload 4, 2) := by decide +kernel
theorem dX6_parse_100 : decode cX6_parse 100 = .ok (.isub, 1) := by decide +kernel
theorem dX6_parse_101 : decode cX6_parse 101 = .ok (.iconst 4, 1) := by decide +kernel
theorem dX6_parse_102 : decode cX6_parse 102 = .ok (.if_icmp .le 6, 3) := by decide +kernel
theorem dX6_parse_105 : decode cX6_parse 105 = .ok (.iload 4, 2) := by decide +kernel
theorem dX6_parse_107 : decode cX6_parse 107 = .ok (.ireturn, 1) := by decide +kernel
theorem dX6_parse_108 : decode cX6_parse 108 = .ok (.aload_n 0, 1) := by decide +kernel
theorem dX6_parse_109 : decode cX6_parse 109 = .ok (.getfield 21, 3) := by decide +kernel
theorem dX6_parse_112 : decode cX6_parse 112 = .ok (.iconst 3, 1) := by decide +kernel
theorem dX6_parse_113 : decode cX6_parse 113 = .ok (.aload_n 0, 1) := by decide +kernel
theorem dX6_parse_114 : decode cX6_parse 114 = .ok (.getfield 32, 3) := by decide +kernel
theorem dX6_parse_117 : decode cX6_parse 117 = .ok (.imul, 1) := by decide +kernel
theorem dX6_parse_118 : decode cX6_parse 118 = .ok (.iload_n 2, 1) := by decide +kernel
theorem dX6_parse_119 : decode cX6_parse 119 = .ok (.iadd, 1) := by decide +kernel
theorem dX6_parse_120 : decode cX6_parse 120 = .ok (.aload_n 0, 1) := by decide +kernel
theorem dX6_parse_121 : decode cX6_parse 121 = .ok (.iload 4, 2) := by decide +kernel
theorem dX6_parse_123 : decode cX6_parse 123 = .ok (.iload_n 3, 1) := by decide +kernel
theorem dX6_parse_124 : decode cX6_parse 124 = .ok (.invokevirtual 49, 3) := by decide +kernel
theorem dX6_parse_127 : decode cX6_parse 127 = .ok (.iastore, 1) := by decide +kernel
theorem dX6_parse_128 : decode cX6_parse 128 = .ok (.iinc 2 1, 3) := by decide +kernel
theorem dX6_parse_131 : decode cX6_parse 131 = .ok (.goto 34, 3) := by decide +kernel
theorem dX6_parse_134 : decode cX6_parse 134 = .ok (.iload 5, 2) := by decide +kernel
theorem dX6_parse_136 : decode cX6_parse 136 = .ok (.iconst 3, 1) := by decide +kernel
theorem dX6_parse_137 : decode cX6_parse 137 = .ok (.if_icmp .eq 6, 3) := by decide +kernel
theorem dX6_parse_140 : decode cX6_parse 140 = .ok (.iload 4, 2) := by decide +kernel
theorem dX6_parse_142 : decode cX6_parse 142 = .ok (.ireturn, 1) := by decide +kernel
theorem dX6_parse_143 : decode cX6_parse 143 = .ok (.aload_n 0, 1) := by decide +kernel
theorem dX6_parse_144 : decode cX6_parse 144 = .ok (.getfield 17, 3) := by decide +kernel
theorem dX6_parse_147 : decode cX6_parse 147 = .ok (.aload_n 0, 1) := by decide +kernel
theorem dX6_parse_148 : decode cX6_parse 148 = .ok (.getfield 32, 3) := by decide +kernel
theorem dX6_parse_151 : decode cX6_parse 151 = .ok (.aload_n 1, 1) := by decide +kernel
theorem dX6_parse_152 : decode cX6_parse 152 = .ok (.aastore, 1) := by decide +kernel
theorem dX6_parse_153 : decode cX6_parse 153 = .ok (.aload_n 0, 1) := by decide +kernel
theorem dX6_parse_154 : decode cX6_parse 154 = .ok (.dup, 1) := by decide +kernel
theorem dX6_parse_155 : decode cX6_parse 155 = .ok (.getfield 32, 3) := by decide +kernel
theorem dX6_parse_158 : decode cX6_parse 158 = .ok (.iconst 1, 1) := by decide +kernel
theorem dX6_parse_159 : decode cX6_parse 159 = .ok (.iadd, 1) := by decide +kernel
theorem dX6_parse_160 : decode cX6_parse 160 = .ok (.putfield 32, 3) := by decide +kernel
theorem dX6_parse_163 : decode cX6_parse 163 = .ok (.aconst_null, 1) := by decide +kernel
theorem dX6_parse_164 : decode cX6_parse 164 = .ok (.astore_n 1, 1) := by decide +kernel
theorem dX6_parse_165 : decode cX6_parse 165 = .ok (.iload 4, 2) := by decide +kernel
theorem dX6_parse_167 : decode cX6_parse 167 = .ok (.iconst 1, 1) := by decide +kernel
theorem dX6_parse_168 : decode cX6_parse 168 = .ok (.iadd, 1) := by decide +kernel
theorem dX6_parse_169 : decode cX6_parse 169 = .ok (.iload_n 3, 1) := by decide +kernel
theorem dX6_parse_170 : decode cX6_parse 170 = .ok (.invokestatic 52, 3) := by decide +kernel
theorem dX6_parse_173 : decode cX6_parse 173 = .ok (.istore 4, 2) := by decide +kernel
theorem dX6_parse_175 : decode cX6_parse 175 = .ok (.goto (-161), 3) := by decide +kernel
theorem dX6_parse_178 : decode cX6_parse 178 = .ok (.aload_n 1, 1) := by decide +kernel
theorem dX6_parse_179 : decode cX6_parse 179 = .ok (.ifnonnull 7, 3) := by decide +kernel
theorem dX6_parse_182 : decode cX6_parse 182 = .ok (.iconst (-1), 1) := by decide +kernel
theorem dX6_parse_183 : decode cX6_parse 183 = .ok (.goto 7, 3) := by decide +kernel
theorem dX6_parse_186 : decode cX6_parse 186 = .ok (.aload_n 0, 1) := by decide +kernel
theorem dX6_parse_187 : decode cX6_parse 187 = .ok (.getfield 24, 3) := by decide +kernel
theorem dX6_parse_190 : decode cX6_parse 190 = .ok (.ireturn, 1) := by decide +kernel
theorem dX6_kindOf_0 : decode cX6_kindOf 0 = .ok (.iload_n 0, 1) := by decide +kernel
theorem dX6_kindOf_1 : decode cX6_kindOf 1 = .ok (.bipush 97, 2) := by decide +kernel
theorem dX6_kindOf_3 : decode cX6_kindOf 3 = .ok (.if_icmp .lt 11, 3) := by decide +kernel
theorem dX6_kindOf_6 : decode cX6_kindOf 6 = .ok (.iload_n 0, 1) := by decide +kernel
theorem dX6_kindOf_7 : decode cX6_kindOf 7 = .ok (.bipush 122, 2) := by decide +kernel
theorem dX6_kindOf_9 : decode cX6_kindOf 9 = .ok (.if_icmp .gt 5, 3) := by decide +kernel
theorem dX6_kindOf_12 : decode cX6_kindOf 12 = .ok (.iconst 1, 1) := by decide +kernel
theorem dX6_kindOf_13 : decode cX6_kindOf 13 = .ok (.ireturn, 1) := by decide +kernel
theorem dX6_kindOf_14 : decode cX6_kindOf 14 = .ok (.iload_n 0, 1) := by decide +kernel
theorem dX6_kindOf_15 : decode cX6_kindOf 15 = .ok (.bipush 48, 2) := by decide +kernel
theorem dX6_kindOf_17 : decode cX6_kindOf 17 = .ok (.if_icmp .lt 11, 3) := by decide +kernel
theorem dX6_kindOf_20 : decode cX6_kindOf 20 = .ok (.iload_n 0, 1) := by decide +kernel
theorem dX6_kindOf_21 : decode cX6_kindOf 21 = .ok (.bipush 57, 2) := by decide +kernel
theorem dX6_kindOf_23 : decode cX6_kindOf 23 = .ok (.if_icmp .gt 5, 3) := by decide +kernel
theorem dX6_kindOf_26 : decode cX6_kindOf 26 = .ok (.iconst 2, 1) := by decide +kernel
theorem dX6_kindOf_27 : decode cX6_kindOf 27 = .ok (.ireturn, 1) := by decide +kernel
theorem dX6_kindOf_28 : decode cX6_kindOf 28 = .ok (.iload_n 0, 1) := by decide +kernel
theorem dX6_kindOf_29 : decode cX6_kindOf 29 = .ok (.bipush 59, 2) := by decide +kernel
theorem dX6_kindOf_31 : decode cX6_kindOf 31 = .ok (.if_icmp .ne 5, 3) := by decide +kernel
theorem dX6_kindOf_34 : decode cX6_kindOf 34 = .ok (.iconst 3, 1) := by decide +kernel
theorem dX6_kindOf_35 : decode cX6_kindOf 35 = .ok (.ireturn, 1) := by decide +kernel
theorem dX6_kindOf_36 : decode cX6_kindOf 36 = .ok (.iload_n 0, 1) := by decide +kernel
theorem dX6_kindOf_37 : decode cX6_kindOf 37 = .ok (.bipush 32, 2) := by decide +kernel
theorem dX6_kindOf_39 : decode cX6_kindOf 39 = .ok (.if_icmp .ne 7, 3) := by decide +kernel
theorem dX6_kindOf_42 : decode cX6_kindOf 42 = .ok (.iconst 0, 1) := by decide +kernel
theorem dX6_kindOf_43 : decode cX6_kindOf 43 = .ok (.goto 4, 3) := by decide +kernel
theorem dX6_kindOf_46 : decode cX6_kindOf 46 = .ok (.iconst 4, 1) := by decide +kernel
theorem dX6_kindOf_47 : decode cX6_kindOf 47 = .ok (.ireturn, 1) := by decide +kernel
theorem dX6_endOf_0 : decode cX6_endOf 0 = .ok (.iload_n 1, 1) := by decide +kernel
theorem dX6_endOf_1 : decode cX6_endOf 1 = .ok (.iconst 1, 1) := by decide +kernel
theorem dX6_endOf_2 : decode cX6_endOf 2 = .ok (.iadd, 1) := by decide +kernel
theorem dX6_endOf_3 : decode cX6_endOf 3 = .ok (.istore_n 3, 1) := by decide +kernel
theorem dX6_endOf_4 : decode cX6_endOf 4 = .ok (.iload_n 2, 1) := by decide +kernel
theorem dX6_endOf_5 : decode cX6_endOf 5 = .ok (.iconst 1, 1) := by decide +kernel
theorem dX6_endOf_6 : decode cX6_endOf 6 = .ok (.if_icmp .eq 8, 3) := by decide +kernel
theorem dX6_endOf_9 : decode cX6_endOf 9 = .ok (.iload_n 2, 1) := by decide +kernel
theorem dX6_endOf_10 : decode cX6_endOf 10 = .ok (.iconst 2, 1) := by decide +kernel
theorem dX6_endOf_11 : decode cX6_endOf 11 = .ok (.if_icmp .ne 30, 3) := by decide +kernel
theorem dX6_endOf_14 : decode cX6_endOf 14 = .ok (.iload_n 3, 1) := by decide +kernel
theorem dX6_endOf_15 : decode cX6_endOf 15 = .ok (.aload_n 0, 1) := by decide +kernel
theorem dX6_endOf_16 : decode cX6_endOf 16 = .ok (.getfield 24, 3) := by decide +kernel
theorem dX6_endOf_19 : decode cX6_endOf 19 = .ok (.if_icmp .ge 22, 3) := by decide +kernel
theorem dX6_endOf_22 : decode cX6_endOf 22 = .ok (.aload_n 0, 1) := by decide +kernel
theorem dX6_endOf_23 : decode cX6_endOf 23 = .ok (.getfield 9, 3) := by decide +kernel
theorem dX6_endOf_26 : decode cX6_endOf 26 = .ok (.iload_n 3, 1) := by decide +kernel
theorem dX6_endOf_27 : decode cX6_endOf 27 = .ok (.iaload, 1) := by decide +kernel
theorem dX6_endOf_28 : decode cX6_endOf 28 = .ok (.invokestatic 35, 3) := by decide +kernel
theorem dX6_endOf_31 : decode cX6_endOf 31 = .ok (.iload_n 2, 1) := by decide +kernel
theorem dX6_endOf_32 : decode cX6_endOf 32 = .ok (.if_icmp .ne 9, 3) := by decide +kernel
theorem dX6_endOf_35 : decode cX6_endOf 35 = .ok (.iinc 3 1, 3) := by decide +kernel
theorem dX6_endOf_38 : decode cX6_endOf 38 = .ok (.goto (-34), 3) := by decide +kernel
theorem dX6_endOf_41 : decode cX6_endOf 41 = .ok (.iload_n 3, 1) := by decide +kernel
theorem dX6_endOf_42 : decode cX6_endOf 42 = .ok (.ireturn, 1) := by decide +kernel
theorem dX6_commandAt_0 : decode cX6_commandAt 0 = .ok (.iconst 0, 1) := by decide +kernel
theorem dX6_commandAt_1 : decode cX6_commandAt 1 = .ok (.istore_n 3, 1) := by decide +kernel
theorem dX6_commandAt_2 : decode cX6_commandAt 2 = .ok (.iload_n 3, 1) := by decide +kernel
theorem dX6_commandAt_3 : decode cX6_commandAt 3 = .ok (.getstatic 57, 3) := by decide +kernel
theorem dX6_commandAt_6 : decode cX6_commandAt 6 = .ok (.arraylength, 1) := by decide +kernel
theorem dX6_commandAt_7 : decode cX6_commandAt 7 = .ok (.if_icmp .ge 32, 3) := by decide +kernel
theorem dX6_commandAt_10 : decode cX6_commandAt 10 = .ok (.aload_n 0, 1) := by decide +kernel
theorem dX6_commandAt_11 : decode cX6_commandAt 11 = .ok (.getstatic 57, 3) := by decide +kernel
theorem dX6_commandAt_14 : decode cX6_commandAt 14 = .ok (.iload_n 3, 1) := by decide +kernel
theorem dX6_commandAt_15 : decode cX6_commandAt 15 = .ok (.aaload, 1) := by decide +kernel
theorem dX6_commandAt_16 : decode cX6_commandAt 16 = .ok (.getfield 60, 3) := by decide +kernel
theorem dX6_commandAt_19 : decode cX6_commandAt 19 = .ok (.iload_n 1, 1) := by decide +kernel
theorem dX6_commandAt_20 : decode cX6_commandAt 20 = .ok (.iload_n 2, 1) := by decide +kernel
theorem dX6_commandAt_21 : decode cX6_commandAt 21 = .ok (.invokevirtual 64, 3) := by decide +kernel
theorem dX6_commandAt_24 : decode cX6_commandAt 24 = .ok (.ifCond .eq 9, 3) := by decide +kernel
theorem dX6_commandAt_27 : decode cX6_commandAt 27 = .ok (.getstatic 57, 3) := by decide +kernel
theorem dX6_commandAt_30 : decode cX6_commandAt 30 = .ok (.iload_n 3, 1) := by decide +kernel
theorem dX6_commandAt_31 : decode cX6_commandAt 31 = .ok (.aaload, 1) := by decide +kernel
theorem dX6_commandAt_32 : decode cX6_commandAt 32 = .ok (.areturn, 1) := by decide +kernel
theorem dX6_commandAt_33 : decode cX6_commandAt 33 = .ok (.iinc 3 1, 3) := by decide +kernel
theorem dX6_commandAt_36 : decode cX6_commandAt 36 = .ok (.goto (-34), 3) := by decide +kernel
theorem dX6_commandAt_39 : decode cX6_commandAt 39 = .ok (.aconst_null, 1) := by decide +kernel
theorem dX6_commandAt_40 : decode cX6_commandAt 40 = .ok (.areturn, 1) := by decide +kernel
theorem dX6_isWordAt_0 : decode cX6_isWordAt 0 = .ok (.aload_n 1, 1) := by decide +kernel
theorem dX6_isWordAt_1 : decode cX6_isWordAt 1 = .ok (.invokevirtual 68, 3) := by decide +kernel
theorem dX6_isWordAt_4 : decode cX6_isWordAt 4 = .ok (.iload_n 3, 1) := by decide +kernel
theorem dX6_isWordAt_5 : decode cX6_isWordAt 5 = .ok (.iload_n 2, 1) := by decide +kernel
theorem dX6_isWordAt_6 : decode cX6_isWordAt 6 = .ok (.isub, 1) := by decide +kernel
theorem dX6_isWordAt_7 : decode cX6_isWordAt 7 = .ok (.if_icmp .eq 5, 3) := by decide +kernel
theorem dX6_isWordAt_10 : decode cX6_isWordAt 10 = .ok (.iconst 0, 1) := by decide +kernel
theorem dX6_isWordAt_11 : decode cX6_isWordAt 11 = .ok (.ireturn, 1) := by decide +kernel
theorem dX6_isWordAt_12 : decode cX6_isWordAt 12 = .ok (.iconst 0, 1) := by decide +kernel
theorem dX6_isWordAt_13 : decode cX6_isWordAt 13 = .ok (.istore 4, 2) := by decide +kernel
theorem dX6_isWordAt_15 : decode cX6_isWordAt 15 = .ok (.iload 4, 2) := by decide +kernel
theorem dX6_isWordAt_17 : decode cX6_isWordAt 17 = .ok (.aload_n 1, 1) := by decide +kernel
theorem dX6_isWordAt_18 : decode cX6_isWordAt 18 = .ok (.invokevirtual 68, 3) := by decide +kernel
theorem dX6_isWordAt_21 : decode cX6_isWordAt 21 = .ok (.if_icmp .ge 29, 3) := by decide +kernel
theorem dX6_isWordAt_24 : decode cX6_isWordAt 24 = .ok (.aload_n 1, 1) := by decide +kernel
theorem dX6_isWordAt_25 : decode cX6_isWordAt 25 = .ok (.iload 4, 2) := by decide +kernel
theorem dX6_isWordAt_27 : decode cX6_isWordAt 27 = .ok (.invokevirtual 73, 3) := by decide +kernel
theorem dX6_isWordAt_30 : decode cX6_isWordAt 30 = .ok (.aload_n 0, 1) := by decide +kernel
theorem dX6_isWordAt_31 : decode cX6_isWordAt 31 = .ok (.getfield 9, 3) := by decide +kernel
theorem dX6_isWordAt_34 : decode cX6_isWordAt 34 = .ok (.iload_n 2, 1) := by decide +kernel
theorem dX6_isWordAt_35 : decode cX6_isWordAt 35 = .ok (.iload 4, 2) := by decide +kernel
theorem dX6_isWordAt_37 : decode cX6_isWordAt 37 = .ok (.iadd, 1) := by decide +kernel
theorem dX6_isWordAt_38 : decode cX6_isWordAt 38 = .ok (.iaload, 1) := by decide +kernel
theorem dX6_isWordAt_39 : decode cX6_isWordAt 39 = .ok (.if_icmp .eq 5, 3) := by decide +kernel
theorem dX6_isWordAt_42 : decode cX6_isWordAt 42 = .ok (.iconst 0, 1) := by decide +kernel
theorem dX6_isWordAt_43 : decode cX6_isWordAt 43 = .ok (.ireturn, 1) := by decide +kernel
theorem dX6_isWordAt_44 : decode cX6_isWordAt 44 = .ok (.iinc 4 1, 3) := by decide +kernel
theorem dX6_isWordAt_47 : decode cX6_isWordAt 47 = .ok (.goto (-32), 3) := by decide +kernel
theorem dX6_isWordAt_50 : decode cX6_isWordAt 50 = .ok (.iconst 1, 1) := by decide +kernel
theorem dX6_isWordAt_51 : decode cX6_isWordAt 51 = .ok (.ireturn, 1) := by decide +kernel
theorem dX6_numberAt_0 : decode cX6_numberAt 0 = .ok (.iconst 0, 1) := by decide +kernel
theorem dX6_numberAt_1 : decode cX6_numberAt 1 = .ok (.istore_n 3, 1) := by decide +kernel
theorem dX6_numberAt_2 : decode cX6_numberAt 2 = .ok (.iload_n 1, 1) := by decide +kernel
theorem dX6_numberAt_3 : decode cX6_numberAt 3 = .ok (.istore 4, 2) := by decide +kernel
theorem dX6_numberAt_5 : decode cX6_numberAt 5 = .ok (.iload 4, 2) := by decide +kernel
theorem dX6_numberAt_7 : decode cX6_numberAt 7 = .ok (.iload_n 2, 1) := by decide +kernel
theorem dX6_numberAt_8 : decode cX6_numberAt 8 = .ok (.if_icmp .ge 25, 3) := by decide +kernel
theorem dX6_numberAt_11 : decode cX6_numberAt 11 = .ok (.bipush 10, 2) := by decide +kernel
theorem dX6_numberAt_13 : decode cX6_numberAt 13 = .ok (.iload_n 3, 1) := by decide +kernel
theorem dX6_numberAt_14 : decode cX6_numberAt 14 = .ok (.imul, 1) := by decide +kernel
theorem dX6_numberAt_15 : decode cX6_numberAt 15 = .ok (.aload_n 0, 1) := by decide +kernel
theorem dX6_numberAt_16 : decode cX6_numberAt 16 = .ok (.getfield 9, 3) := by decide +kernel
theorem dX6_numberAt_19 : decode cX6_numberAt 19 = .ok (.iload 4, 2) := by decide +kernel
theorem dX6_numberAt_21 : decode cX6_numberAt 21 = .ok (.iaload, 1) := by decide +kernel
theorem dX6_numberAt_22 : decode cX6_numberAt 22 = .ok (.iadd, 1) := by decide +kernel
theorem dX6_numberAt_23 : decode cX6_numberAt 23 = .ok (.bipush 48, 2) := by decide +kernel
theorem dX6_numberAt_25 : decode cX6_numberAt 25 = .ok (.isub, 1) := by decide +kernel
theorem dX6_numberAt_26 : decode cX6_numberAt 26 = .ok (.istore_n 3, 1) := by decide +kernel
theorem dX6_numberAt_27 : decode cX6_numberAt 27 = .ok (.iinc 4 1, 3) := by decide +kernel
theorem dX6_numberAt_30 : decode cX6_numberAt 30 = .ok (.goto (-25), 3) := by decide +kernel
theorem dX6_numberAt_33 : decode cX6_numberAt 33 = .ok (.iload_n 3, 1) := by decide +kernel
theorem dX6_numberAt_34 : decode cX6_numberAt 34 = .ok (.ireturn, 1) := by decide +kernel
theorem dJ6_bitCount_0f7a4_0 : decode cJ6_bitCount_0f7a4 0 = .ok (.iload_n 0, 1) := by decide +kernel
theorem dJ6_bitCount_0f7a4_1 : decode cJ6_bitCount_0f7a4 1 = .ok (.iload_n 0, 1) := by decide +kernel
theorem dJ6_bitCount_0f7a4_2 : decode cJ6_bitCount_0f7a4 2 = .ok (.iconst 1, 1) := by decide +kernel
theorem dJ6_bitCount_0f7a4_3 : decode cJ6_bitCount_0f7a4 3 = .ok (.iushr, 1) := by decide +kernel
theorem dJ6_bitCount_0f7a4_4 : decode cJ6_bitCount_0f7a4 4 = .ok (.ldc_w 265, 3) := by decide +kernel
theorem dJ6_bitCount_0f7a4_7 : decode cJ6_bitCount_0f7a4 7 = .ok (.iand, 1) := by decide +kernel
theorem dJ6_bitCount_0f7a4_8 : decode cJ6_bitCount_0f7a4 8 = .ok (.isub, 1) := by decide +kernel
theorem dJ6_bitCount_0f7a4_9 : decode cJ6_bitCount_0f7a4 9 = .ok (.istore_n 0, 1) := by decide +kernel
theorem dJ6_bitCount_0f7a4_10 : decode cJ6_bitCount_0f7a4 10 = .ok (.iload_n 0, 1) := by decide +kernel
theorem dJ6_bitCount_0f7a4_11 : decode cJ6_bitCount_0f7a4 11 = .ok (.ldc_w 266, 3) := by decide +kernel
theorem dJ6_bitCount_0f7a4_14 : decode cJ6_bitCount_0f7a4 14 = .ok (.iand, 1) := by decide +kernel
theorem dJ6_bitCount_0f7a4_15 : decode cJ6_bitCount_0f7a4 15 = .ok (.iload_n 0, 1) := by decide +kernel
theorem dJ6_bitCount_0f7a4_16 : decode cJ6_bitCount_0f7a4 16 = .ok (.iconst 2, 1) := by decide +kernel
theorem dJ6_bitCount_0f7a4_17 : decode cJ6_bitCount_0f7a4 17 = .ok (.iushr, 1) := by decide +kernel
theorem dJ6_bitCount_0f7a4_18 : decode cJ6_bitCount_0f7a4 18 = .ok (.ldc_w 266, 3) := by decide +kernel
theorem dJ6_bitCount_0f7a4_21 : decode cJ6_bitCount_0f7a4 21 = .ok (.iand, 1) := by decide +kernel
theorem dJ6_bitCount_0f7a4_22 : decode cJ6_bitCount_0f7a4 22 = .ok (.iadd, 1) := by decide +kernel
theorem dJ6_bitCount_0f7a4_23 : decode cJ6_bitCount_0f7a4 23 = .ok (.istore_n 0, 1) := by decide +kernel
theorem dJ6_bitCount_0f7a4_24 : decode cJ6_bitCount_0f7a4 24 = .ok (.iload_n 0, 1) := by decide +kernel
theorem dJ6_bitCount_0f7a4_25 : decode cJ6_bitCount_0f7a4 25 = .ok (.iload_n 0, 1) := by decide +kernel
theorem dJ6_bitCount_0f7a4_26 : decode cJ6_bitCount_0f7a4 26 = .ok (.iconst 4, 1) := by decide +kernel
theorem dJ6_bitCount_0f7a4_27 : decode cJ6_bitCount_0f7a4 27 = .ok (.iushr, 1) := by decide +kernel
theorem dJ6_bitCount_0f7a4_28 : decode cJ6_bitCount_0f7a4 28 = .ok (.iadd, 1) := by decide +kernel
theorem dJ6_bitCount_0f7a4_29 : decode cJ6_bitCount_0f7a4 29 = .ok (.ldc_w 267, 3) := by decide +kernel
theorem dJ6_bitCount_0f7a4_32 : decode cJ6_bitCount_0f7a4 32 = .ok (.iand, 1) := by decide +kernel
theorem dJ6_bitCount_0f7a4_33 : decode cJ6_bitCount_0f7a4 33 = .ok (.istore_n 0, 1) := by decide +kernel
theorem dJ6_bitCount_0f7a4_34 : decode cJ6_bitCount_0f7a4 34 = .ok (.iload_n 0, 1) := by decide +kernel
theorem dJ6_bitCount_0f7a4_35 : decode cJ6_bitCount_0f7a4 35 = .ok (.iload_n 0, 1) := by decide +kernel
theorem dJ6_bitCount_0f7a4_36 : decode cJ6_bitCount_0f7a4 36 = .ok (.bipush 8, 2) := by decide +kernel
theorem dJ6_bitCount_0f7a4_38 : decode cJ6_bitCount_0f7a4 38 = .ok (.iushr, 1) := by decide +kernel
theorem dJ6_bitCount_0f7a4_39 : decode cJ6_bitCount_0f7a4 39 = .ok (.iadd, 1) := by decide +kernel
theorem dJ6_bitCount_0f7a4_40 : decode cJ6_bitCount_0f7a4 40 = .ok (.istore_n 0, 1) := by decide +kernel
theorem dJ6_bitCount_0f7a4_41 : decode cJ6_bitCount_0f7a4 41 = .ok (.iload_n 0, 1) := by decide +kernel
theorem dJ6_bitCount_0f7a4_42 : decode cJ6_bitCount_0f7a4 42 = .ok (.iload_n 0, 1) := by decide +kernel
theorem dJ6_bitCount_0f7a4_43 : decode cJ6_bitCount_0f7a4 43 = .ok (.bipush 16, 2) := by decide +kernel
theorem dJ6_bitCount_0f7a4_45 : decode cJ6_bitCount_0f7a4 45 = .ok (.iushr, 1) := by decide +kernel
theorem dJ6_bitCount_0f7a4_46 : decode cJ6_bitCount_0f7a4 46 = .ok (.iadd, 1) := by decide +kernel
theorem dJ6_bitCount_0f7a4_47 : decode cJ6_bitCount_0f7a4 47 = .ok (.istore_n 0, 1) := by decide +kernel
theorem dJ6_bitCount_0f7a4_48 : decode cJ6_bitCount_0f7a4 48 = .ok (.iload_n 0, 1) := by decide +kernel
theorem dJ6_bitCount_0f7a4_49 : decode cJ6_bitCount_0f7a4 49 = .ok (.bipush 63, 2) := by decide +kernel
theorem dJ6_bitCount_0f7a4_51 : decode cJ6_bitCount_0f7a4 51 = .ok (.iand, 1) := by decide +kernel
theorem dJ6_bitCount_0f7a4_52 : decode cJ6_bitCount_0f7a4 52 = .ok (.ireturn, 1) := by decide +kernel
theorem dJ9_abs_0f7a4_0 : decode cJ9_abs_0f7a4 0 = .ok (.iload_n 0, 1) := by decide +kernel
theorem dJ9_abs_0f7a4_1 : decode cJ9_abs_0f7a4 1 = .ok (.ifCond .ge 8, 3) := by decide +kernel
theorem dJ9_abs_0f7a4_4 : decode cJ9_abs_0f7a4 4 = .ok (.iload_n 0, 1) := by decide +kernel
theorem dJ9_abs_0f7a4_5 : decode cJ9_abs_0f7a4 5 = .ok (.ineg, 1) := by decide +kernel
theorem dJ9_abs_0f7a4_6 : decode cJ9_abs_0f7a4 6 = .ok (.goto 4, 3) := by decide +kernel
theorem dJ9_abs_0f7a4_9 : decode cJ9_abs_0f7a4 9 = .ok (.iload_n 0, 1) := by decide +kernel
theorem dJ9_abs_0f7a4_10 : decode cJ9_abs_0f7a4 10 = .ok (.ireturn, 1) := by decide +kernel
theorem dJ9_max_7cf53_0 : decode cJ9_max_7cf53 0 = .ok (.iload_n 0, 1) := by decide +kernel
theorem dJ9_max_7cf53_1 : decode cJ9_max_7cf53 1 = .ok (.iload_n 1, 1) := by decide +kernel
theorem dJ9_max_7cf53_2 : decode cJ9_max_7cf53 2 = .ok (.if_icmp .lt 7, 3) := by decide +kernel
theorem dJ9_max_7cf53_5 : decode cJ9_max_7cf53 5 = .ok (.iload_n 0, 1) := by decide +kernel
theorem dJ9_max_7cf53_6 : decode cJ9_max_7cf53 6 = .ok (.goto 4, 3) := by decide +kernel
theorem dJ9_max_7cf53_9 : decode cJ9_max_7cf53 9 = .ok (.iload_n 1, 1) := by decide +kernel
theorem dJ9_max_7cf53_10 : decode cJ9_max_7cf53 10 = .ok (.ireturn, 1) := by decide +kernel
theorem dJ9_max_f86c9_0 : decode cJ9_max_f86c9 0 = .ok (.lload_n 0, 1) := by decide +kernel
theorem dJ9_max_f86c9_1 : decode cJ9_max_f86c9 1 = .ok (.lload_n 2, 1) := by decide +kernel
theorem dJ9_max_f86c9_2 : decode cJ9_max_f86c9 2 = .ok (.lcmp, 1) := by decide +kernel
theorem dJ9_max_f86c9_3 : decode cJ9_max_f86c9 3 = .ok (.ifCond .lt 7, 3) := by decide +kernel
theorem dJ9_max_f86c9_6 : decode cJ9_max_f86c9 6 = .ok (.lload_n 0, 1) := by decide +kernel
theorem dJ9_max_f86c9_7 : decode cJ9_max_f86c9 7 = .ok (.goto 4, 3) := by decide +kernel
theorem dJ9_max_f86c9_10 : decode cJ9_max_f86c9 10 = .ok (.lload_n 2, 1) := by decide +kernel
theorem dJ9_max_f86c9_11 : decode cJ9_max_f86c9 11 = .ok (.lreturn, 1) := by decide +kernel
theorem dJ9_min_7cf53_0 : decode cJ9_min_7cf53 0 = .ok (.iload_n 0, 1) := by decide +kernel
theorem dJ9_min_7cf53_1 : decode cJ9_min_7cf53 1 = .ok (.iload_n 1, 1) := by decide +kernel
theorem dJ9_min_7cf53_2 : decode cJ9_min_7cf53 2 = .ok (.if_icmp .gt 7, 3) := by decide +kernel
theorem dJ9_min_7cf53_5 : decode cJ9_min_7cf53 5 = .ok (.iload_n 0, 1) := by decide +kernel
theorem dJ9_min_7cf53_6 : decode cJ9_min_7cf53 6 = .ok (.goto 4, 3) := by decide +kernel
theorem dJ9_min_7cf53_9 : decode cJ9_min_7cf53 9 = .ok (.iload_n 1, 1) := by decide +kernel
theorem dJ9_min_7cf53_10 : decode cJ9_min_7cf53 10 = .ok (.ireturn, 1) := by decide +kernel
theorem dJ0_length_8abf5_0 : decode cJ0_length_8abf5 0 = .ok (.aload_n 0, 1) := by decide +kernel
theorem dJ0_length_8abf5_1 : decode cJ0_length_8abf5 1 = .ok (.getfield 9, 3) := by decide +kernel
theorem dJ0_length_8abf5_4 : decode cJ0_length_8abf5 4 = .ok (.arraylength, 1) := by decide +kernel
theorem dJ0_length_8abf5_5 : decode cJ0_length_8abf5 5 = .ok (.aload_n 0, 1) := by decide +kernel
theorem dJ0_length_8abf5_6 : decode cJ0_length_8abf5 6 = .ok (.invokevirtual 335, 3) := by decide +kernel
theorem dJ0_length_8abf5_9 : decode cJ0_length_8abf5 9 = .ok (.ishr, 1) := by decide +kernel
theorem dJ0_length_8abf5_10 : decode cJ0_length_8abf5 10 = .ok (.ireturn, 1) := by decide +kernel
theorem dJ0_charAt_5068e_0 : decode cJ0_charAt_5068e 0 = .ok (.aload_n 0, 1) := by decide +kernel
theorem dJ0_charAt_5068e_1 : decode cJ0_charAt_5068e 1 = .ok (.invokevirtual 492, 3) := by decide +kernel
theorem dJ0_charAt_5068e_4 : decode cJ0_charAt_5068e 4 = .ok (.ifCond .eq 12, 3) := by decide +kernel
theorem dJ0_charAt_5068e_7 : decode cJ0_charAt_5068e 7 = .ok (.aload_n 0, 1) := by decide +kernel
theorem dJ0_charAt_5068e_8 : decode cJ0_charAt_5068e 8 = .ok (.getfield 9, 3) := by decide +kernel
theorem dJ0_charAt_5068e_11 : decode cJ0_charAt_5068e 11 = .ok (.iload_n 1, 1) := by decide +kernel
theorem dJ0_charAt_5068e_12 : decode cJ0_charAt_5068e 12 = .ok (.invokestatic 495, 3) := by decide +kernel
theorem dJ0_charAt_5068e_15 : decode cJ0_charAt_5068e 15 = .ok (.ireturn, 1) := by decide +kernel
theorem dJ0_charAt_5068e_16 : decode cJ0_charAt_5068e 16 = .ok (.aload_n 0, 1) := by decide +kernel
theorem dJ0_charAt_5068e_17 : decode cJ0_charAt_5068e 17 = .ok (.getfield 9, 3) := by decide +kernel
theorem dJ0_charAt_5068e_20 : decode cJ0_charAt_5068e 20 = .ok (.iload_n 1, 1) := by decide +kernel
theorem dJ0_charAt_5068e_21 : decode cJ0_charAt_5068e 21 = .ok (.invokestatic 498, 3) := by decide +kernel
theorem dJ0_charAt_5068e_24 : decode cJ0_charAt_5068e 24 = .ok (.ireturn, 1) := by decide +kernel
theorem dJ0_coder_7d493_0 : decode cJ0_coder_7d493 0 = .ok (.getstatic 38, 3) := by decide +kernel
theorem dJ0_coder_7d493_3 : decode cJ0_coder_7d493 3 = .ok (.ifCond .eq 10, 3) := by decide +kernel
theorem dJ0_coder_7d493_6 : decode cJ0_coder_7d493 6 = .ok (.aload_n 0, 1) := by decide +kernel
theorem dJ0_coder_7d493_7 : decode cJ0_coder_7d493 7 = .ok (.getfield 15, 3) := by decide +kernel
theorem dJ0_coder_7d493_10 : decode cJ0_coder_7d493 10 = .ok (.goto 4, 3) := by decide +kernel
theorem dJ0_coder_7d493_13 : decode cJ0_coder_7d493 13 = .ok (.iconst 1, 1) := by decide +kernel
theorem dJ0_coder_7d493_14 : decode cJ0_coder_7d493 14 = .ok (.ireturn, 1) := by decide +kernel
theorem dJ0_isLatin1_aae02_0 : decode cJ0_isLatin1_aae02 0 = .ok (.getstatic 38, 3) := by decide +kernel
theorem dJ0_isLatin1_aae02_3 : decode cJ0_isLatin1_aae02 3 = .ok (.ifCond .eq 14, 3) := by decide +kernel
theorem dJ0_isLatin1_aae02_6 : decode cJ0_isLatin1_aae02 6 = .ok (.aload_n 0, 1) := by decide +kernel
theorem dJ0_isLatin1_aae02_7 : decode cJ0_isLatin1_aae02 7 = .ok (.getfield 15, 3) := by decide +kernel
theorem dJ0_isLatin1_aae02_10 : decode cJ0_isLatin1_aae02 10 = .ok (.ifCond .ne 7, 3) := by decide +kernel
theorem dJ0_isLatin1_aae02_13 : decode cJ0_isLatin1_aae02 13 = .ok (.iconst 1, 1) := by decide +kernel
theorem dJ0_isLatin1_aae02_14 : decode cJ0_isLatin1_aae02 14 = .ok (.goto 4, 3) := by decide +kernel
theorem dJ0_isLatin1_aae02_17 : decode cJ0_isLatin1_aae02 17 = .ok (.iconst 0, 1) := by decide +kernel
theorem dJ0_isLatin1_aae02_18 : decode cJ0_isLatin1_aae02 18 = .ok (.ireturn, 1) := by decide +kernel
theorem dJ0_checkIndex_df160_0 : decode cJ0_checkIndex_df160 0 = .ok (.iload_n 0, 1) := by decide +kernel
theorem dJ0_checkIndex_df160_1 : decode cJ0_checkIndex_df160 1 = .ok (.iload_n 1, 1) := by decide +kernel
theorem dJ0_checkIndex_df160_2 : decode cJ0_checkIndex_df160 2 = .ok (.getstatic 1053, 3) := by decide +kernel
theorem dJ0_checkIndex_df160_5 : decode cJ0_checkIndex_df160 5 = .ok (.invokestatic 1059, 3) := by decide +kernel
theorem dJ0_checkIndex_df160_8 : decode cJ0_checkIndex_df160 8 = .ok (.pop, 1) := by decide +kernel
theorem dJ0_checkIndex_df160_9 : decode cJ0_checkIndex_df160 9 = .ok (.return_, 1) := by decide +kernel
theorem dJ1_charAt_3b067_0 : decode cJ1_charAt_3b067 0 = .ok (.iload_n 1, 1) := by decide +kernel
theorem dJ1_charAt_3b067_1 : decode cJ1_charAt_3b067 1 = .ok (.aload_n 0, 1) := by decide +kernel
theorem dJ1_charAt_3b067_2 : decode cJ1_charAt_3b067 2 = .ok (.arraylength, 1) := by decide +kernel
theorem dJ1_charAt_3b067_3 : decode cJ1_charAt_3b067 3 = .ok (.invokestatic 9, 3) := by decide +kernel
theorem dJ1_charAt_3b067_6 : decode cJ1_charAt_3b067 6 = .ok (.aload_n 0, 1) := by decide +kernel
theorem dJ1_charAt_3b067_7 : decode cJ1_charAt_3b067 7 = .ok (.iload_n 1, 1) := by decide +kernel
theorem dJ1_charAt_3b067_8 : decode cJ1_charAt_3b067 8 = .ok (.baload, 1) := by decide +kernel
theorem dJ1_charAt_3b067_9 : decode cJ1_charAt_3b067 9 = .ok (.sipush 255, 3) := by decide +kernel
theorem dJ1_charAt_3b067_12 : decode cJ1_charAt_3b067 12 = .ok (.iand, 1) := by decide +kernel
theorem dJ1_charAt_3b067_13 : decode cJ1_charAt_3b067 13 = .ok (.i2c, 1) := by decide +kernel
theorem dJ1_charAt_3b067_14 : decode cJ1_charAt_3b067 14 = .ok (.ireturn, 1) := by decide +kernel
theorem dJ2_getChar_3b067_0 : decode cJ2_getChar_3b067 0 = .ok (.getstatic 44, 3) := by decide +kernel
theorem dJ2_getChar_3b067_3 : decode cJ2_getChar_3b067 3 = .ok (.ifCond .ne 25, 3) := by decide +kernel
theorem dJ2_getChar_3b067_6 : decode cJ2_getChar_3b067 6 = .ok (.iload_n 1, 1) := by decide +kernel
theorem dJ2_getChar_3b067_7 : decode cJ2_getChar_3b067 7 = .ok (.ifCond .lt 11, 3) := by decide +kernel
theorem dJ2_getChar_3b067_10 : decode cJ2_getChar_3b067 10 = .ok (.iload_n 1, 1) := by decide +kernel
theorem dJ2_getChar_3b067_11 : decode cJ2_getChar_3b067 11 = .ok (.aload_n 0, 1) := by decide +kernel
theorem dJ2_getChar_3b067_12 : decode cJ2_getChar_3b067 12 = .ok (.invokestatic 48, 3) := by decide +kernel
theorem dJ2_getChar_3b067_15 : decode cJ2_getChar_3b067 15 = .ok (.if_icmp .lt 13, 3) := by decide +kernel
theorem dJ2_getChar_3b067_18 : decode cJ2_getChar_3b067 18 = .ok (.new 52, 3) := by decide +kernel
theorem dJ2_getChar_3b067_21 : decode cJ2_getChar_3b067 21 = .ok (.dup, 1) := by decide +kernel
theorem dJ2_getChar_3b067_22 : decode cJ2_getChar_3b067 22 = .ok (.ldc 54, 2) := by decide +kernel
theorem dJ2_getChar_3b067_24 : decode cJ2_getChar_3b067 24 = .ok (.invokespecial 56, 3) := by decide +kernel
theorem dJ2_getChar_3b067_27 : decode cJ2_getChar_3b067 27 = .ok (.athrow, 1) := by decide +kernel
theorem dJ2_getChar_3b067_28 : decode cJ2_getChar_3b067 28 = .ok (.iload_n 1, 1) := by decide +kernel
theorem dJ2_getChar_3b067_29 : decode cJ2_getChar_3b067 29 = .ok (.iconst 1, 1) := by decide +kernel
theorem dJ2_getChar_3b067_30 : decode cJ2_getChar_3b067 30 = .ok (.ishl, 1) := by decide +kernel
theorem dJ2_getChar_3b067_31 : decode cJ2_getChar_3b067 31 = .ok (.istore_n 1, 1) := by decide +kernel
theorem dJ2_getChar_3b067_32 : decode cJ2_getChar_3b067 32 = .ok (.aload_n 0, 1) := by decide +kernel
theorem dJ2_getChar_3b067_33 : decode cJ2_getChar_3b067 33 = .ok (.iload_n 1, 1) := by decide +kernel
theorem dJ2_getChar_3b067_34 : decode cJ2_getChar_3b067 34 = .ok (.iinc 1 1, 3) := by decide +kernel
theorem dJ2_getChar_3b067_37 : decode cJ2_getChar_3b067 37 = .ok (.baload, 1) := by decide +kernel
theorem dJ2_getChar_3b067_38 : decode cJ2_getChar_3b067 38 = .ok (.sipush 255, 3) := by decide +kernel
theorem dJ2_getChar_3b067_41 : decode cJ2_getChar_3b067 41 = .ok (.iand, 1) := by decide +kernel
theorem dJ2_getChar_3b067_42 : decode cJ2_getChar_3b067 42 = .ok (.getstatic 59, 3) := by decide +kernel
theorem dJ2_getChar_3b067_45 : decode cJ2_getChar_3b067 45 = .ok (.ishl, 1) := by decide +kernel
theorem dJ2_getChar_3b067_46 : decode cJ2_getChar_3b067 46 = .ok (.aload_n 0, 1) := by decide +kernel
theorem dJ2_getChar_3b067_47 : decode cJ2_getChar_3b067 47 = .ok (.iload_n 1, 1) := by decide +kernel
theorem dJ2_getChar_3b067_48 : decode cJ2_getChar_3b067 48 = .ok (.baload, 1) := by decide +kernel
theorem dJ2_getChar_3b067_49 : decode cJ2_getChar_3b067 49 = .ok (.sipush 255, 3) := by decide +kernel
theorem dJ2_getChar_3b067_52 : decode cJ2_getChar_3b067 52 = .ok (.iand, 1) := by decide +kernel
theorem dJ2_getChar_3b067_53 : decode cJ2_getChar_3b067 53 = .ok (.getstatic 63, 3) := by decide +kernel
theorem dJ2_getChar_3b067_56 : decode cJ2_getChar_3b067 56 = .ok (.ishl, 1) := by decide +kernel
theorem dJ2_getChar_3b067_57 : decode cJ2_getChar_3b067 57 = .ok (.ior, 1) := by decide +kernel
theorem dJ2_getChar_3b067_58 : decode cJ2_getChar_3b067 58 = .ok (.i2c, 1) := by decide +kernel
theorem dJ2_getChar_3b067_59 : decode cJ2_getChar_3b067 59 = .ok (.ireturn, 1) := by decide +kernel
theorem dJ2_length_9d52b_0 : decode cJ2_length_9d52b 0 = .ok (.aload_n 0, 1) := by decide +kernel
theorem dJ2_length_9d52b_1 : decode cJ2_length_9d52b 1 = .ok (.arraylength, 1) := by decide +kernel
theorem dJ2_length_9d52b_2 : decode cJ2_length_9d52b 2 = .ok (.iconst 1, 1) := by decide +kernel
theorem dJ2_length_9d52b_3 : decode cJ2_length_9d52b 3 = .ok (.ishr, 1) := by decide +kernel
theorem dJ2_length_9d52b_4 : decode cJ2_length_9d52b 4 = .ok (.ireturn, 1) := by decide +kernel
theorem dJ2_charAt_3b067_0 : decode cJ2_charAt_3b067 0 = .ok (.iload_n 1, 1) := by decide +kernel
theorem dJ2_charAt_3b067_1 : decode cJ2_charAt_3b067 1 = .ok (.aload_n 0, 1) := by decide +kernel
theorem dJ2_charAt_3b067_2 : decode cJ2_charAt_3b067 2 = .ok (.invokestatic 67, 3) := by decide +kernel
theorem dJ2_charAt_3b067_5 : decode cJ2_charAt_3b067 5 = .ok (.aload_n 0, 1) := by decide +kernel
theorem dJ2_charAt_3b067_6 : decode cJ2_charAt_3b067 6 = .ok (.iload_n 1, 1) := by decide +kernel
theorem dJ2_charAt_3b067_7 : decode cJ2_charAt_3b067 7 = .ok (.invokestatic 71, 3) := by decide +kernel
theorem dJ2_charAt_3b067_10 : decode cJ2_charAt_3b067 10 = .ok (.ireturn, 1) := by decide +kernel
theorem dJ2_checkIndex_2214a_0 : decode cJ2_checkIndex_2214a 0 = .ok (.iload_n 0, 1) := by decide +kernel
theorem dJ2_checkIndex_2214a_1 : decode cJ2_checkIndex_2214a 1 = .ok (.aload_n 1, 1) := by decide +kernel
theorem dJ2_checkIndex_2214a_2 : decode cJ2_checkIndex_2214a 2 = .ok (.invokestatic 48, 3) := by decide +kernel
theorem dJ2_checkIndex_2214a_5 : decode cJ2_checkIndex_2214a 5 = .ok (.invokestatic 414, 3) := by decide +kernel
theorem dJ2_checkIndex_2214a_8 : decode cJ2_checkIndex_2214a 8 = .ok (.return_, 1) := by decide +kernel
theorem dJ3_checkIndex_8e157_0 : decode cJ3_checkIndex_8e157 0 = .ok (.iload_n 0, 1) := by decide +kernel
theorem dJ3_checkIndex_8e157_1 : decode cJ3_checkIndex_8e157 1 = .ok (.ifCond .lt 8, 3) := by decide +kernel
theorem dJ3_checkIndex_8e157_4 : decode cJ3_checkIndex_8e157 4 = .ok (.iload_n 0, 1) := by decide +kernel
theorem dJ3_checkIndex_8e157_5 : decode cJ3_checkIndex_8e157 5 = .ok (.iload_n 1, 1) := by decide +kernel
theorem dJ3_checkIndex_8e157_6 : decode cJ3_checkIndex_8e157 6 = .ok (.if_icmp .lt 10, 3) := by decide +kernel
theorem dJ3_checkIndex_8e157_9 : decode cJ3_checkIndex_8e157 9 = .ok (.aload_n 2, 1) := by decide +kernel
theorem dJ3_checkIndex_8e157_10 : decode cJ3_checkIndex_8e157 10 = .ok (.iload_n 0, 1) := by decide +kernel
theorem dJ3_checkIndex_8e157_11 : decode cJ3_checkIndex_8e157 11 = .ok (.iload_n 1, 1) := by decide +kernel
theorem dJ3_checkIndex_8e157_12 : decode cJ3_checkIndex_8e157 12 = .ok (.invokestatic 95, 3) := by decide +kernel
theorem dJ3_checkIndex_8e157_15 : decode cJ3_checkIndex_8e157 15 = .ok (.athrow, 1) := by decide +kernel
theorem dJ3_checkIndex_8e157_16 : decode cJ3_checkIndex_8e157 16 = .ok (.iload_n 0, 1) := by decide +kernel
theorem dJ3_checkIndex_8e157_17 : decode cJ3_checkIndex_8e157 17 = .ok (.ireturn, 1) := by decide +kernel

theorem dX0_init_0 : decode cX0_init 0 = .ok (.aload_n 0, 1) := by decide +kernel
theorem dX0_init_1 : decode cX0_init 1 = .ok (.invokespecial 3, 3) := by decide +kernel
theorem dX0_init_4 : decode cX0_init 4 = .ok (.aload_n 0, 1) := by decide +kernel
theorem dX0_init_5 : decode cX0_init 5 = .ok (.aconst_null, 1) := by decide +kernel
theorem dX0_init_6 : decode cX0_init 6 = .ok (.putfield 9, 3) := by decide +kernel
theorem dX0_init_9 : decode cX0_init 9 = .ok (.aload_n 0, 1) := by decide +kernel
theorem dX0_init_10 : decode cX0_init 10 = .ok (.iconst (-1), 1) := by decide +kernel
theorem dX0_init_11 : decode cX0_init 11 = .ok (.putfield 15, 3) := by decide +kernel
theorem dX0_init_14 : decode cX0_init 14 = .ok (.aload_n 0, 1) := by decide +kernel
theorem dX0_init_15 : decode cX0_init 15 = .ok (.bipush (-8), 2) := by decide +kernel
theorem dX0_init_17 : decode cX0_init 17 = .ok (.putfield 19, 3) := by decide +kernel
theorem dX0_init_20 : decode cX0_init 20 = .ok (.aload_n 0, 1) := by decide +kernel
theorem dX0_init_21 : decode cX0_init 21 = .ok (.iload_n 1, 1) := by decide +kernel
theorem dX0_init_22 : decode cX0_init 22 = .ok (.putfield 22, 3) := by decide +kernel
theorem dX0_init_25 : decode cX0_init 25 = .ok (.aload_n 0, 1) := by decide +kernel
theorem dX0_init_26 : decode cX0_init 26 = .ok (.aload_n 2, 1) := by decide +kernel
theorem dX0_init_27 : decode cX0_init 27 = .ok (.putfield 25, 3) := by decide +kernel
theorem dX0_init_30 : decode cX0_init 30 = .ok (.aload_n 0, 1) := by decide +kernel
theorem dX0_init_31 : decode cX0_init 31 = .ok (.aload_n 2, 1) := by decide +kernel
theorem dX0_init_32 : decode cX0_init 32 = .ok (.putfield 29, 3) := by decide +kernel
theorem dX0_init_35 : decode cX0_init 35 = .ok (.return_, 1) := by decide +kernel
theorem dX0_state_0 : decode cX0_state 0 = .ok (.aload_n 0, 1) := by decide +kernel
theorem dX0_state_1 : decode cX0_state 1 = .ok (.getfield 29, 3) := by decide +kernel
theorem dX0_state_4 : decode cX0_state 4 = .ok (.ifnull 5, 3) := by decide +kernel
theorem dX0_state_7 : decode cX0_state 7 = .ok (.iconst 0, 1) := by decide +kernel
theorem dX0_state_8 : decode cX0_state 8 = .ok (.ireturn, 1) := by decide +kernel
theorem dX0_state_9 : decode cX0_state 9 = .ok (.aload_n 0, 1) := by decide +kernel
theorem dX0_state_10 : decode cX0_state 10 = .ok (.getfield 9, 3) := by decide +kernel
theorem dX0_state_13 : decode cX0_state 13 = .ok (.ifnull 7, 3) := by decide +kernel
theorem dX0_state_16 : decode cX0_state 16 = .ok (.iconst 1, 1) := by decide +kernel
theorem dX0_state_17 : decode cX0_state 17 = .ok (.goto 4, 3) := by decide +kernel
theorem dX0_state_20 : decode cX0_state 20 = .ok (.iconst 2, 1) := by decide +kernel
theorem dX0_state_21 : decode cX0_state 21 = .ok (.ireturn, 1) := by decide +kernel
theorem dX0_rests_0 : decode cX0_rests 0 = .ok (.aload_n 0, 1) := by decide +kernel
theorem dX0_rests_1 : decode cX0_rests 1 = .ok (.getfield 29, 3) := by decide +kernel
theorem dX0_rests_4 : decode cX0_rests 4 = .ok (.ifnull 18, 3) := by decide +kernel
theorem dX0_rests_7 : decode cX0_rests 7 = .ok (.iload_n 1, 1) := by decide +kernel
theorem dX0_rests_8 : decode cX0_rests 8 = .ok (.aload_n 0, 1) := by decide +kernel
theorem dX0_rests_9 : decode cX0_rests 9 = .ok (.getfield 19, 3) := by decide +kernel
theorem dX0_rests_12 : decode cX0_rests 12 = .ok (.isub, 1) := by decide +kernel
theorem dX0_rests_13 : decode cX0_rests 13 = .ok (.bipush 8, 2) := by decide +kernel
theorem dX0_rests_15 : decode cX0_rests 15 = .ok (.if_icmp .ge 7, 3) := by decide +kernel
theorem dX0_rests_18 : decode cX0_rests 18 = .ok (.iconst 1, 1) := by decide +kernel
theorem dX0_rests_19 : decode cX0_rests 19 = .ok (.goto 4, 3) := by decide +kernel
theorem dX0_rests_22 : decode cX0_rests 22 = .ok (.iconst 0, 1) := by decide +kernel
theorem dX0_rests_23 : decode cX0_rests 23 = .ok (.ireturn, 1) := by decide +kernel
theorem dX0_board_0 : decode cX0_board 0 = .ok (.aload_n 0, 1) := by decide +kernel
theorem dX0_board_1 : decode cX0_board 1 = .ok (.aconst_null, 1) := by decide +kernel
theorem dX0_board_2 : decode cX0_board 2 = .ok (.putfield 29, 3) := by decide +kernel
theorem dX0_board_5 : decode cX0_board 5 = .ok (.aload_n 0, 1) := by decide +kernel
theorem dX0_board_6 : decode cX0_board 6 = .ok (.aload_n 1, 1) := by decide +kernel
theorem dX0_board_7 : decode cX0_board 7 = .ok (.putfield 9, 3) := by decide +kernel
theorem dX0_board_10 : decode cX0_board 10 = .ok (.aload_n 1, 1) := by decide +kernel
theorem dX0_board_11 : decode cX0_board 11 = .ok (.aload_n 0, 1) := by decide +kernel
theorem dX0_board_12 : decode cX0_board 12 = .ok (.putfield 32, 3) := by decide +kernel
theorem dX0_board_15 : decode cX0_board 15 = .ok (.return_, 1) := by decide +kernel
theorem dX0_comeBy_0 : decode cX0_comeBy 0 = .ok (.aload_n 0, 1) := by decide +kernel
theorem dX0_comeBy_1 : decode cX0_comeBy 1 = .ok (.getfield 15, 3) := by decide +kernel
theorem dX0_comeBy_4 : decode cX0_comeBy 4 = .ok (.iconst (-1), 1) := by decide +kernel
theorem dX0_comeBy_5 : decode cX0_comeBy 5 = .ok (.if_icmp .eq 32, 3) := by decide +kernel
theorem dX0_comeBy_8 : decode cX0_comeBy 8 = .ok (.aload_n 0, 1) := by decide +kernel
theorem dX0_comeBy_9 : decode cX0_comeBy 9 = .ok (.getfield 15, 3) := by decide +kernel
theorem dX0_comeBy_12 : decode cX0_comeBy 12 = .ok (.iload_n 1, 1) := by decide +kernel
theorem dX0_comeBy_13 : decode cX0_comeBy 13 = .ok (.if_icmp .gt 24, 3) := by decide +kernel
theorem dX0_comeBy_16 : decode cX0_comeBy 16 = .ok (.aload_n 0, 1) := by decide +kernel
theorem dX0_comeBy_17 : decode cX0_comeBy 17 = .ok (.aload_n 0, 1) := by decide +kernel
theorem dX0_comeBy_18 : decode cX0_comeBy 18 = .ok (.getfield 25, 3) := by decide +kernel
theorem dX0_comeBy_21 : decode cX0_comeBy 21 = .ok (.putfield 29, 3) := by decide +kernel
theorem dX0_comeBy_24 : decode cX0_comeBy 24 = .ok (.aload_n 0, 1) := by decide +kernel
theorem dX0_comeBy_25 : decode cX0_comeBy 25 = .ok (.iconst (-1), 1) := by decide +kernel
theorem dX0_comeBy_26 : decode cX0_comeBy 26 = .ok (.putfield 15, 3) := by decide +kernel
theorem dX0_comeBy_29 : decode cX0_comeBy 29 = .ok (.aload_n 0, 1) := by decide +kernel
theorem dX0_comeBy_30 : decode cX0_comeBy 30 = .ok (.iload_n 1, 1) := by decide +kernel
theorem dX0_comeBy_31 : decode cX0_comeBy 31 = .ok (.putfield 19, 3) := by decide +kernel
theorem dX0_comeBy_34 : decode cX0_comeBy 34 = .ok (.goto 45, 3) := by decide +kernel
theorem dX0_comeBy_37 : decode cX0_comeBy 37 = .ok (.aload_n 0, 1) := by decide +kernel
theorem dX0_comeBy_38 : decode cX0_comeBy 38 = .ok (.getfield 9, 3) := by decide +kernel
theorem dX0_comeBy_41 : decode cX0_comeBy 41 = .ok (.ifnull 38, 3) := by decide +kernel
theorem dX0_comeBy_44 : decode cX0_comeBy 44 = .ok (.aload_n 0, 1) := by decide +kernel
theorem dX0_comeBy_45 : decode cX0_comeBy 45 = .ok (.getfield 9, 3) := by decide +kernel
theorem dX0_comeBy_48 : decode cX0_comeBy 48 = .ok (.invokevirtual 38, 3) := by decide +kernel
theorem dX0_comeBy_51 : decode cX0_comeBy 51 = .ok (.iconst 2, 1) := by decide +kernel
theorem dX0_comeBy_52 : decode cX0_comeBy 52 = .ok (.if_icmp .ne 27, 3) := by decide +kernel
theorem dX0_comeBy_55 : decode cX0_comeBy 55 = .ok (.aload_n 0, 1) := by decide +kernel
theorem dX0_comeBy_56 : decode cX0_comeBy 56 = .ok (.getfield 9, 3) := by decide +kernel
theorem dX0_comeBy_59 : decode cX0_comeBy 59 = .ok (.getfield 42, 3) := by decide +kernel
theorem dX0_comeBy_62 : decode cX0_comeBy 62 = .ok (.iload_n 1, 1) := by decide +kernel
theorem dX0_comeBy_63 : decode cX0_comeBy 63 = .ok (.if_icmp .gt 16, 3) := by decide +kernel
theorem dX0_comeBy_66 : decode cX0_comeBy 66 = .ok (.aload_n 0, 1) := by decide +kernel
theorem dX0_comeBy_67 : decode cX0_comeBy 67 = .ok (.getfield 9, 3) := by decide +kernel
theorem dX0_comeBy_70 : decode cX0_comeBy 70 = .ok (.invokevirtual 45, 3) := by decide +kernel
theorem dX0_comeBy_73 : decode cX0_comeBy 73 = .ok (.pop, 1) := by decide +kernel
theorem dX0_comeBy_74 : decode cX0_comeBy 74 = .ok (.aload_n 0, 1) := by decide +kernel
theorem dX0_comeBy_75 : decode cX0_comeBy 75 = .ok (.iload_n 1, 1) := by decide +kernel
theorem dX0_comeBy_76 : decode cX0_comeBy 76 = .ok (.putfield 19, 3) := by decide +kernel
theorem dX0_comeBy_79 : decode cX0_comeBy 79 = .ok (.return_, 1) := by decide +kernel
theorem dX1_init_0 : decode cX1_init 0 = .ok (.aload_n 0, 1) := by decide +kernel
theorem dX1_init_1 : decode cX1_init 1 = .ok (.invokespecial 3, 3) := by decide +kernel
theorem dX1_init_4 : decode cX1_init 4 = .ok (.aload_n 0, 1) := by decide +kernel
theorem dX1_init_5 : decode cX1_init 5 = .ok (.iconst 5, 1) := by decide +kernel
theorem dX1_init_6 : decode cX1_init 6 = .ok (.anewarray 11, 3) := by decide +kernel
theorem dX1_init_9 : decode cX1_init 9 = .ok (.putfield 13, 3) := by decide +kernel
theorem dX1_init_12 : decode cX1_init 12 = .ok (.aload_n 0, 1) := by decide +kernel
theorem dX1_init_13 : decode cX1_init 13 = .ok (.iconst 5, 1) := by decide +kernel
theorem dX1_init_14 : decode cX1_init 14 = .ok (.newarray .int, 2) := by decide +kernel
theorem dX1_init_16 : decode cX1_init 16 = .ok (.putfield 17, 3) := by decide +kernel
theorem dX1_init_19 : decode cX1_init 19 = .ok (.aload_n 0, 1) := by decide +kernel
theorem dX1_init_20 : decode cX1_init 20 = .ok (.iconst 5, 1) := by decide +kernel
theorem dX1_init_21 : decode cX1_init 21 = .ok (.newarray .int, 2) := by decide +kernel
theorem dX1_init_23 : decode cX1_init 23 = .ok (.putfield 21, 3) := by decide +kernel
theorem dX1_init_26 : decode cX1_init 26 = .ok (.aload_n 0, 1) := by decide +kernel
theorem dX1_init_27 : decode cX1_init 27 = .ok (.iconst 5, 1) := by decide +kernel
theorem dX1_init_28 : decode cX1_init 28 = .ok (.newarray .int, 2) := by decide +kernel
theorem dX1_init_30 : decode cX1_init 30 = .ok (.putfield 24, 3) := by decide +kernel
theorem dX1_init_33 : decode cX1_init 33 = .ok (.aload_n 0, 1) := by decide +kernel
theorem dX1_init_34 : decode cX1_init 34 = .ok (.iconst 5, 1) := by decide +kernel
theorem dX1_init_35 : decode cX1_init 35 = .ok (.newarray .int, 2) := by decide +kernel
theorem dX1_init_37 : decode cX1_init 37 = .ok (.putfield 27, 3) := by decide +kernel
theorem dX1_init_40 : decode cX1_init 40 = .ok (.aload_n 0, 1) := by decide +kernel
theorem dX1_init_41 : decode cX1_init 41 = .ok (.iconst 0, 1) := by decide +kernel
theorem dX1_init_42 : decode cX1_init 42 = .ok (.putfield 30, 3) := by decide +kernel
theorem dX1_init_45 : decode cX1_init 45 = .ok (.aload_n 0, 1) := by decide +kernel
theorem dX1_init_46 : decode cX1_init 46 = .ok (.iconst 0, 1) := by decide +kernel
theorem dX1_init_47 : decode cX1_init 47 = .ok (.putfield 34, 3) := by decide +kernel
theorem dX1_init_50 : decode cX1_init 50 = .ok (.aload_n 0, 1) := by decide +kernel
theorem dX1_init_51 : decode cX1_init 51 = .ok (.iconst (-1), 1) := by decide +kernel
theorem dX1_init_52 : decode cX1_init 52 = .ok (.putfield 37, 3) := by decide +kernel
theorem dX1_init_55 : decode cX1_init 55 = .ok (.return_, 1) := by decide +kernel
theorem dX1_clear_0 : decode cX1_clear 0 = .ok (.aload_n 0, 1) := by decide +kernel
theorem dX1_clear_1 : decode cX1_clear 1 = .ok (.iconst 0, 1) := by decide +kernel
theorem dX1_clear_2 : decode cX1_clear 2 = .ok (.putfield 30, 3) := by decide +kernel
theorem dX1_clear_5 : decode cX1_clear 5 = .ok (.aload_n 0, 1) := by decide +kernel
theorem dX1_clear_6 : decode cX1_clear 6 = .ok (.iconst 0, 1) := by decide +kernel
theorem dX1_clear_7 : decode cX1_clear 7 = .ok (.putfield 34, 3) := by decide +kernel
theorem dX1_clear_10 : decode cX1_clear 10 = .ok (.aload_n 0, 1) := by decide +kernel
theorem dX1_clear_11 : decode cX1_clear 11 = .ok (.iconst (-1), 1) := by decide +kernel
theorem dX1_clear_12 : decode cX1_clear 12 = .ok (.putfield 37, 3) := by decide +kernel
theorem dX1_clear_15 : decode cX1_clear 15 = .ok (.return_, 1) := by decide +kernel
theorem dX1_admit_0 : decode cX1_admit 0 = .ok (.aload_n 0, 1) := by decide +kernel
theorem dX1_admit_1 : decode cX1_admit 1 = .ok (.getfield 30, 3) := by decide +kernel
theorem dX1_admit_4 : decode cX1_admit 4 = .ok (.iconst 5, 1) := by decide +kernel
theorem dX1_admit_5 : decode cX1_admit 5 = .ok (.if_icmp .ge 26, 3) := by decide +kernel
theorem dX1_admit_8 : decode cX1_admit 8 = .ok (.aload_n 0, 1) := by decide +kernel
theorem dX1_admit_9 : decode cX1_admit 9 = .ok (.getfield 13, 3) := by decide +kernel
theorem dX1_admit_12 : decode cX1_admit 12 = .ok (.aload_n 0, 1) := by decide +kernel
theorem dX1_admit_13 : decode cX1_admit 13 = .ok (.getfield 30, 3) := by decide +kernel
theorem dX1_admit_16 : decode cX1_admit 16 = .ok (.aload_n 1, 1) := by decide +kernel
theorem dX1_admit_17 : decode cX1_admit 17 = .ok (.aastore, 1) := by decide +kernel
theorem dX1_admit_18 : decode cX1_admit 18 = .ok (.aload_n 0, 1) := by decide +kernel
theorem dX1_admit_19 : decode cX1_admit 19 = .ok (.getfield 17, 3) := by decide +kernel
theorem dX1_admit_22 : decode cX1_admit 22 = .ok (.aload_n 0, 1) := by decide +kernel
theorem dX1_admit_23 : decode cX1_admit 23 = .ok (.getfield 30, 3) := by decide +kernel
theorem dX1_admit_26 : decode cX1_admit 26 = .ok (.aload_n 0, 1) := by decide +kernel
theorem dX1_admit_27 : decode cX1_admit 27 = .ok (.getfield 30, 3) := by decide +kernel
theorem dX1_admit_30 : decode cX1_admit 30 = .ok (.iastore, 1) := by decide +kernel
theorem dX1_admit_31 : decode cX1_admit 31 = .ok (.aload_n 0, 1) := by decide +kernel
theorem dX1_admit_32 : decode cX1_admit 32 = .ok (.dup, 1) := by decide +kernel
theorem dX1_admit_33 : decode cX1_admit 33 = .ok (.getfield 30, 3) := by decide +kernel
theorem dX1_admit_36 : decode cX1_admit 36 = .ok (.iconst 1, 1) := by decide +kernel
theorem dX1_admit_37 : decode cX1_admit 37 = .ok (.iadd, 1) := by decide +kernel
theorem dX1_admit_38 : decode cX1_admit 38 = .ok (.putfield 30, 3) := by decide +kernel
theorem dX1_admit_41 : decode cX1_admit 41 = .ok (.return_, 1) := by decide +kernel
theorem dX1_raftIn_0 : decode cX1_raftIn 0 = .ok (.iload_n 1, 1) := by decide +kernel
theorem dX1_raftIn_1 : decode cX1_raftIn 1 = .ok (.iconst 0, 1) := by decide +kernel
theorem dX1_raftIn_2 : decode cX1_raftIn 2 = .ok (.aload_n 0, 1) := by decide +kernel
theorem dX1_raftIn_3 : decode cX1_raftIn 3 = .ok (.getfield 34, 3) := by decide +kernel
theorem dX1_raftIn_6 : decode cX1_raftIn 6 = .ok (.iconst 1, 1) := by decide +kernel
theorem dX1_raftIn_7 : decode cX1_raftIn 7 = .ok (.isub, 1) := by decide +kernel
theorem dX1_raftIn_8 : decode cX1_raftIn 8 = .ok (.invokestatic 40, 3) := by decide +kernel
theorem dX1_raftIn_11 : decode cX1_raftIn 11 = .ok (.ifCond .eq 20, 3) := by decide +kernel
theorem dX1_raftIn_14 : decode cX1_raftIn 14 = .ok (.aload_n 0, 1) := by decide +kernel
theorem dX1_raftIn_15 : decode cX1_raftIn 15 = .ok (.getfield 13, 3) := by decide +kernel
theorem dX1_raftIn_18 : decode cX1_raftIn 18 = .ok (.aload_n 0, 1) := by decide +kernel
theorem dX1_raftIn_19 : decode cX1_raftIn 19 = .ok (.getfield 24, 3) := by decide +kernel
theorem dX1_raftIn_22 : decode cX1_raftIn 22 = .ok (.iload_n 1, 1) := by decide +kernel
theorem dX1_raftIn_23 : decode cX1_raftIn 23 = .ok (.iaload, 1) := by decide +kernel
theorem dX1_raftIn_24 : decode cX1_raftIn 24 = .ok (.aaload, 1) := by decide +kernel
theorem dX1_raftIn_25 : decode cX1_raftIn 25 = .ok (.getfield 44, 3) := by decide +kernel
theorem dX1_raftIn_28 : decode cX1_raftIn 28 = .ok (.goto 4, 3) := by decide +kernel
theorem dX1_raftIn_31 : decode cX1_raftIn 31 = .ok (.iconst (-1), 1) := by decide +kernel
theorem dX1_raftIn_32 : decode cX1_raftIn 32 = .ok (.ireturn, 1) := by decide +kernel
theorem dX1_hourOf_0 : decode cX1_hourOf 0 = .ok (.iload_n 1, 1) := by decide +kernel
theorem dX1_hourOf_1 : decode cX1_hourOf 1 = .ok (.iconst 0, 1) := by decide +kernel
theorem dX1_hourOf_2 : decode cX1_hourOf 2 = .ok (.aload_n 0, 1) := by decide +kernel
theorem dX1_hourOf_3 : decode cX1_hourOf 3 = .ok (.getfield 34, 3) := by decide +kernel
theorem dX1_hourOf_6 : decode cX1_hourOf 6 = .ok (.iconst 1, 1) := by decide +kernel
theorem dX1_hourOf_7 : decode cX1_hourOf 7 = .ok (.isub, 1) := by decide +kernel
theorem dX1_hourOf_8 : decode cX1_hourOf 8 = .ok (.invokestatic 40, 3) := by decide +kernel
theorem dX1_hourOf_11 : decode cX1_hourOf 11 = .ok (.ifCond .eq 12, 3) := by decide +kernel
theorem dX1_hourOf_14 : decode cX1_hourOf 14 = .ok (.aload_n 0, 1) := by decide +kernel
theorem dX1_hourOf_15 : decode cX1_hourOf 15 = .ok (.getfield 27, 3) := by decide +kernel
theorem dX1_hourOf_18 : decode cX1_hourOf 18 = .ok (.iload_n 1, 1) := by decide +kernel
theorem dX1_hourOf_19 : decode cX1_hourOf 19 = .ok (.iaload, 1) := by decide +kernel
theorem dX1_hourOf_20 : decode cX1_hourOf 20 = .ok (.goto 4, 3) := by decide +kernel
theorem dX1_hourOf_23 : decode cX1_hourOf 23 = .ok (.iconst (-1), 1) := by decide +kernel
theorem dX1_hourOf_24 : decode cX1_hourOf 24 = .ok (.ireturn, 1) := by decide +kernel
theorem dX1_work_0 : decode cX1_work 0 = .ok (.aload_n 0, 1) := by decide +kernel
theorem dX1_work_1 : decode cX1_work 1 = .ok (.getfield 30, 3) := by decide +kernel
theorem dX1_work_4 : decode cX1_work 4 = .ok (.ifCond .eq 11, 3) := by decide +kernel
theorem dX1_work_7 : decode cX1_work 7 = .ok (.aload_n 0, 1) := by decide +kernel
theorem dX1_work_8 : decode cX1_work 8 = .ok (.getfield 30, 3) := by decide +kernel
theorem dX1_work_11 : decode cX1_work 11 = .ok (.iconst 5, 1) := by decide +kernel
theorem dX1_work_12 : decode cX1_work 12 = .ok (.if_icmp .le 4, 3) := by decide +kernel
theorem dX1_work_15 : decode cX1_work 15 = .ok (.return_, 1) := by decide +kernel
theorem dX1_work_16 : decode cX1_work 16 = .ok (.iconst 1, 1) := by decide +kernel
theorem dX1_work_17 : decode cX1_work 17 = .ok (.istore_n 3, 1) := by decide +kernel
theorem dX1_work_18 : decode cX1_work 18 = .ok (.iconst 0, 1) := by decide +kernel
theorem dX1_work_19 : decode cX1_work 19 = .ok (.istore 4, 2) := by decide +kernel
theorem dX1_work_21 : decode cX1_work 21 = .ok (.iload 4, 2) := by decide +kernel
theorem dX1_work_23 : decode cX1_work 23 = .ok (.bipush 120, 2) := by decide +kernel
theorem dX1_work_25 : decode cX1_work 25 = .ok (.if_icmp .ge 55, 3) := by decide +kernel
theorem dX1_work_28 : decode cX1_work 28 = .ok (.iload_n 3, 1) := by decide +kernel
theorem dX1_work_29 : decode cX1_work 29 = .ok (.ifCond .eq 51, 3) := by decide +kernel
theorem dX1_work_32 : decode cX1_work 32 = .ok (.aload_n 0, 1) := by decide +kernel
theorem dX1_work_33 : decode cX1_work 33 = .ok (.aload_n 1, 1) := by decide +kernel
theorem dX1_work_34 : decode cX1_work 34 = .ok (.iload_n 2, 1) := by decide +kernel
theorem dX1_work_35 : decode cX1_work 35 = .ok (.invokevirtual 47, 3) := by decide +kernel
theorem dX1_work_38 : decode cX1_work 38 = .ok (.istore 5, 2) := by decide +kernel
theorem dX1_work_40 : decode cX1_work 40 = .ok (.iload 5, 2) := by decide +kernel
theorem dX1_work_42 : decode cX1_work 42 = .ok (.iconst (-1), 1) := by decide +kernel
theorem dX1_work_43 : decode cX1_work 43 = .ok (.if_icmp .eq 26, 3) := by decide +kernel
theorem dX1_work_46 : decode cX1_work 46 = .ok (.aload_n 0, 1) := by decide +kernel
theorem dX1_work_47 : decode cX1_work 47 = .ok (.getfield 37, 3) := by decide +kernel
theorem dX1_work_50 : decode cX1_work 50 = .ok (.iconst (-1), 1) := by decide +kernel
theorem dX1_work_51 : decode cX1_work 51 = .ok (.if_icmp .eq 12, 3) := by decide +kernel
theorem dX1_work_54 : decode cX1_work 54 = .ok (.iload 5, 2) := by decide +kernel
theorem dX1_work_56 : decode cX1_work 56 = .ok (.aload_n 0, 1) := by decide +kernel
theorem dX1_work_57 : decode cX1_work 57 = .ok (.getfield 37, 3) := by decide +kernel
theorem dX1_work_60 : decode cX1_work 60 = .ok (.if_icmp .ge 9, 3) := by decide +kernel
theorem dX1_work_63 : decode cX1_work 63 = .ok (.aload_n 0, 1) := by decide +kernel
theorem dX1_work_64 : decode cX1_work 64 = .ok (.iload 5, 2) := by decide +kernel
theorem dX1_work_66 : decode cX1_work 66 = .ok (.invokevirtual 51, 3) := by decide +kernel
theorem dX1_work_69 : decode cX1_work 69 = .ok (.aload_n 0, 1) := by decide +kernel
theorem dX1_work_70 : decode cX1_work 70 = .ok (.invokevirtual 55, 3) := by decide +kernel
theorem dX1_work_73 : decode cX1_work 73 = .ok (.istore_n 3, 1) := by decide +kernel
theorem dX1_work_74 : decode cX1_work 74 = .ok (.iinc 4 1, 3) := by decide +kernel
theorem dX1_work_77 : decode cX1_work 77 = .ok (.goto (-56), 3) := by decide +kernel
theorem dX1_work_80 : decode cX1_work 80 = .ok (.return_, 1) := by decide +kernel
theorem dX1_keep_0 : decode cX1_keep 0 = .ok (.aload_n 0, 1) := by decide +kernel
theorem dX1_keep_1 : decode cX1_keep 1 = .ok (.iload_n 1, 1) := by decide +kernel
theorem dX1_keep_2 : decode cX1_keep 2 = .ok (.putfield 37, 3) := by decide +kernel
theorem dX1_keep_5 : decode cX1_keep 5 = .ok (.aload_n 0, 1) := by decide +kernel
theorem dX1_keep_6 : decode cX1_keep 6 = .ok (.aload_n 0, 1) := by decide +kernel
theorem dX1_keep_7 : decode cX1_keep 7 = .ok (.getfield 30, 3) := by decide +kernel
theorem dX1_keep_10 : decode cX1_keep 10 = .ok (.putfield 34, 3) := by decide +kernel
theorem dX1_keep_13 : decode cX1_keep 13 = .ok (.iconst 0, 1) := by decide +kernel
theorem dX1_keep_14 : decode cX1_keep 14 = .ok (.istore_n 2, 1) := by decide +kernel
theorem dX1_keep_15 : decode cX1_keep 15 = .ok (.iload_n 2, 1) := by decide +kernel
theorem dX1_keep_16 : decode cX1_keep 16 = .ok (.aload_n 0, 1) := by decide +kernel
theorem dX1_keep_17 : decode cX1_keep 17 = .ok (.getfield 30, 3) := by decide +kernel
theorem dX1_keep_20 : decode cX1_keep 20 = .ok (.if_icmp .ge 33, 3) := by decide +kernel
theorem dX1_keep_23 : decode cX1_keep 23 = .ok (.aload_n 0, 1) := by decide +kernel
theorem dX1_keep_24 : decode cX1_keep 24 = .ok (.getfield 24, 3) := by decide +kernel
theorem dX1_keep_27 : decode cX1_keep 27 = .ok (.iload_n 2, 1) := by decide +kernel
theorem dX1_keep_28 : decode cX1_keep 28 = .ok (.aload_n 0, 1) := by decide +kernel
theorem dX1_keep_29 : decode cX1_keep 29 = .ok (.getfield 17, 3) := by decide +kernel
theorem dX1_keep_32 : decode cX1_keep 32 = .ok (.iload_n 2, 1) := by decide +kernel
theorem dX1_keep_33 : decode cX1_keep 33 = .ok (.iaload, 1) := by decide +kernel
theorem dX1_keep_34 : decode cX1_keep 34 = .ok (.iastore, 1) := by decide +kernel
theorem dX1_keep_35 : decode cX1_keep 35 = .ok (.aload_n 0, 1) := by decide +kernel
theorem dX1_keep_36 : decode cX1_keep 36 = .ok (.getfield 27, 3) := by decide +kernel
theorem dX1_keep_39 : decode cX1_keep 39 = .ok (.iload_n 2, 1) := by decide +kernel
theorem dX1_keep_40 : decode cX1_keep 40 = .ok (.aload_n 0, 1) := by decide +kernel
theorem dX1_keep_41 : decode cX1_keep 41 = .ok (.getfield 21, 3) := by decide +kernel
theorem dX1_keep_44 : decode cX1_keep 44 = .ok (.iload_n 2, 1) := by decide +kernel
theorem dX1_keep_45 : decode cX1_keep 45 = .ok (.iaload, 1) := by decide +kernel
theorem dX1_keep_46 : decode cX1_keep 46 = .ok (.iastore, 1) := by decide +kernel
theorem dX1_keep_47 : decode cX1_keep 47 = .ok (.iinc 2 1, 3) := by decide +kernel
theorem dX1_keep_50 : decode cX1_keep 50 = .ok (.goto (-35), 3) := by decide +kernel
theorem dX1_keep_53 : decode cX1_keep 53 = .ok (.return_, 1) := by decide +kernel
theorem dX1_sumOfHours_0 : decode cX1_sumOfHours 0 = .ok (.iconst 0, 1) := by decide +kernel
theorem dX1_sumOfHours_1 : decode cX1_sumOfHours 1 = .ok (.istore_n 3, 1) := by decide +kernel
theorem dX1_sumOfHours_2 : decode cX1_sumOfHours 2 = .ok (.iload_n 2, 1) := by decide +kernel
theorem dX1_sumOfHours_3 : decode cX1_sumOfHours 3 = .ok (.istore 4, 2) := by decide +kernel
theorem dX1_sumOfHours_5 : decode cX1_sumOfHours 5 = .ok (.aload_n 1, 1) := by decide +kernel
theorem dX1_sumOfHours_6 : decode cX1_sumOfHours 6 = .ok (.getfield 59, 3) := by decide +kernel
theorem dX1_sumOfHours_9 : decode cX1_sumOfHours 9 = .ok (.istore 5, 2) := by decide +kernel
theorem dX1_sumOfHours_11 : decode cX1_sumOfHours 11 = .ok (.iconst 0, 1) := by decide +kernel
theorem dX1_sumOfHours_12 : decode cX1_sumOfHours 12 = .ok (.istore 6, 2) := by decide +kernel
theorem dX1_sumOfHours_14 : decode cX1_sumOfHours 14 = .ok (.iload 6, 2) := by decide +kernel
theorem dX1_sumOfHours_16 : decode cX1_sumOfHours 16 = .ok (.aload_n 0, 1) := by decide +kernel
theorem dX1_sumOfHours_17 : decode cX1_sumOfHours 17 = .ok (.getfield 30, 3) := by decide +kernel
theorem dX1_sumOfHours_20 : decode cX1_sumOfHours 20 = .ok (.if_icmp .ge 119, 3) := by decide +kernel
theorem dX1_sumOfHours_23 : decode cX1_sumOfHours 23 = .ok (.aload_n 0, 1) := by decide +kernel
theorem dX1_sumOfHours_24 : decode cX1_sumOfHours 24 = .ok (.getfield 13, 3) := by decide +kernel
theorem dX1_sumOfHours_27 : decode cX1_sumOfHours 27 = .ok (.aload_n 0, 1) := by decide +kernel
theorem dX1_sumOfHours_28 : decode cX1_sumOfHours 28 = .ok (.getfield 17, 3) := by decide +kernel
theorem dX1_sumOfHours_31 : decode cX1_sumOfHours 31 = .ok (.iload 6, 2) := by decide +kernel
theorem dX1_sumOfHours_33 : decode cX1_sumOfHours 33 = .ok (.iaload, 1) := by decide +kernel
theorem dX1_sumOfHours_34 : decode cX1_sumOfHours 34 = .ok (.aaload, 1) := by decide +kernel
theorem dX1_sumOfHours_35 : decode cX1_sumOfHours 35 = .ok (.invokevirtual 64, 3) := by decide +kernel
theorem dX1_sumOfHours_38 : decode cX1_sumOfHours 38 = .ok (.istore 7, 2) := by decide +kernel
theorem dX1_sumOfHours_40 : decode cX1_sumOfHours 40 = .ok (.iload 7, 2) := by decide +kernel
theorem dX1_sumOfHours_42 : decode cX1_sumOfHours 42 = .ok (.iload 5, 2) := by decide +kernel
theorem dX1_sumOfHours_44 : decode cX1_sumOfHours 44 = .ok (.isub, 1) := by decide +kernel
theorem dX1_sumOfHours_45 : decode cX1_sumOfHours 45 = .ok (.aload_n 1, 1) := by decide +kernel
theorem dX1_sumOfHours_46 : decode cX1_sumOfHours 46 = .ok (.getfield 68, 3) := by decide +kernel
theorem dX1_sumOfHours_49 : decode cX1_sumOfHours 49 = .ok (.invokestatic 71, 3) := by decide +kernel
theorem dX1_sumOfHours_52 : decode cX1_sumOfHours 52 = .ok (.istore 8, 2) := by decide +kernel
theorem dX1_sumOfHours_54 : decode cX1_sumOfHours 54 = .ok (.iload 8, 2) := by decide +kernel
theorem dX1_sumOfHours_56 : decode cX1_sumOfHours 56 = .ok (.iconst (-1), 1) := by decide +kernel
theorem dX1_sumOfHours_57 : decode cX1_sumOfHours 57 = .ok (.if_icmp .ne 5, 3) := by decide +kernel
theorem dX1_sumOfHours_60 : decode cX1_sumOfHours 60 = .ok (.iconst (-1), 1) := by decide +kernel
theorem dX1_sumOfHours_61 : decode cX1_sumOfHours 61 = .ok (.ireturn, 1) := by decide +kernel
theorem dX1_sumOfHours_62 : decode cX1_sumOfHours 62 = .ok (.aload_n 0, 1) := by decide +kernel
theorem dX1_sumOfHours_63 : decode cX1_sumOfHours 63 = .ok (.getfield 21, 3) := by decide +kernel
theorem dX1_sumOfHours_66 : decode cX1_sumOfHours 66 = .ok (.iload 6, 2) := by decide +kernel
theorem dX1_sumOfHours_68 : decode cX1_sumOfHours 68 = .ok (.iload 4, 2) := by decide +kernel
theorem dX1_sumOfHours_70 : decode cX1_sumOfHours 70 = .ok (.iload 8, 2) := by decide +kernel
theorem dX1_sumOfHours_72 : decode cX1_sumOfHours 72 = .ok (.iadd, 1) := by decide +kernel
theorem dX1_sumOfHours_73 : decode cX1_sumOfHours 73 = .ok (.iastore, 1) := by decide +kernel
theorem dX1_sumOfHours_74 : decode cX1_sumOfHours 74 = .ok (.iload_n 3, 1) := by decide +kernel
theorem dX1_sumOfHours_75 : decode cX1_sumOfHours 75 = .ok (.aload_n 0, 1) := by decide +kernel
theorem dX1_sumOfHours_76 : decode cX1_sumOfHours 76 = .ok (.getfield 21, 3) := by decide +kernel
theorem dX1_sumOfHours_79 : decode cX1_sumOfHours 79 = .ok (.iload 6, 2) := by decide +kernel
theorem dX1_sumOfHours_81 : decode cX1_sumOfHours 81 = .ok (.iaload, 1) := by decide +kernel
theorem dX1_sumOfHours_82 : decode cX1_sumOfHours 82 = .ok (.iadd, 1) := by decide +kernel
theorem dX1_sumOfHours_83 : decode cX1_sumOfHours 83 = .ok (.istore_n 3, 1) := by decide +kernel
theorem dX1_sumOfHours_84 : decode cX1_sumOfHours 84 = .ok (.aload_n 0, 1) := by decide +kernel
theorem dX1_sumOfHours_85 : decode cX1_sumOfHours 85 = .ok (.getfield 21, 3) := by decide +kernel
theorem dX1_sumOfHours_88 : decode cX1_sumOfHours 88 = .ok (.iload 6, 2) := by decide +kernel
theorem dX1_sumOfHours_90 : decode cX1_sumOfHours 90 = .ok (.iaload, 1) := by decide +kernel
theorem dX1_sumOfHours_91 : decode cX1_sumOfHours 91 = .ok (.iconst 1, 1) := by decide +kernel
theorem dX1_sumOfHours_92 : decode cX1_sumOfHours 92 = .ok (.iadd, 1) := by decide +kernel
theorem dX1_sumOfHours_93 : decode cX1_sumOfHours 93 = .ok (.istore 4, 2) := by decide +kernel
theorem dX1_sumOfHours_95 : decode cX1_sumOfHours 95 = .ok (.aload_n 1, 1) := by decide +kernel
theorem dX1_sumOfHours_96 : decode cX1_sumOfHours 96 = .ok (.getfield 75, 3) := by decide +kernel
theorem dX1_sumOfHours_99 : decode cX1_sumOfHours 99 = .ok (.iload 5, 2) := by decide +kernel
theorem dX1_sumOfHours_101 : decode cX1_sumOfHours 101 = .ok (.iload 8, 2) := by decide +kernel
theorem dX1_sumOfHours_103 : decode cX1_sumOfHours 103 = .ok (.aload_n 1, 1) := by decide +kernel
theorem dX1_sumOfHours_104 : decode cX1_sumOfHours 104 = .ok (.getfield 68, 3) := by decide +kernel
theorem dX1_sumOfHours_107 : decode cX1_sumOfHours 107 = .ok (.imul, 1) := by decide +kernel
theorem dX1_sumOfHours_108 : decode cX1_sumOfHours 108 = .ok (.iadd, 1) := by decide +kernel
theorem dX1_sumOfHours_109 : decode cX1_sumOfHours 109 = .ok (.invokestatic 78, 3) := by decide +kernel
theorem dX1_sumOfHours_112 : decode cX1_sumOfHours 112 = .ok (.iload 7, 2) := by decide +kernel
theorem dX1_sumOfHours_114 : decode cX1_sumOfHours 114 = .ok (.isub, 1) := by decide +kernel
theorem dX1_sumOfHours_115 : decode cX1_sumOfHours 115 = .ok (.istore 9, 2) := by decide +kernel
theorem dX1_sumOfHours_117 : decode cX1_sumOfHours 117 = .ok (.aload_n 1, 1) := by decide +kernel
theorem dX1_sumOfHours_118 : decode cX1_sumOfHours 118 = .ok (.getfield 75, 3) := by decide +kernel
theorem dX1_sumOfHours_121 : decode cX1_sumOfHours 121 = .ok (.iload 9, 2) := by decide +kernel
theorem dX1_sumOfHours_123 : decode cX1_sumOfHours 123 = .ok (.aload_n 1, 1) := by decide +kernel
theorem dX1_sumOfHours_124 : decode cX1_sumOfHours 124 = .ok (.getfield 68, 3) := by decide +kernel
theorem dX1_sumOfHours_127 : decode cX1_sumOfHours 127 = .ok (.iadd, 1) := by decide +kernel
theorem dX1_sumOfHours_128 : decode cX1_sumOfHours 128 = .ok (.invokestatic 78, 3) := by decide +kernel
theorem dX1_sumOfHours_131 : decode cX1_sumOfHours 131 = .ok (.istore 5, 2) := by decide +kernel
theorem dX1_sumOfHours_133 : decode cX1_sumOfHours 133 = .ok (.iinc 6 1, 3) := by decide +kernel
theorem dX1_sumOfHours_136 : decode cX1_sumOfHours 136 = .ok (.goto (-122), 3) := by decide +kernel
theorem dX1_sumOfHours_139 : decode cX1_sumOfHours 139 = .ok (.iload_n 3, 1) := by decide +kernel
theorem dX1_sumOfHours_140 : decode cX1_sumOfHours 140 = .ok (.ireturn, 1) := by decide +kernel
theorem dX1_hoursToFill_0 : decode cX1_hoursToFill 0 = .ok (.iload_n 0, 1) := by decide +kernel
theorem dX1_hoursToFill_1 : decode cX1_hoursToFill 1 = .ok (.ifCond .gt 5, 3) := by decide +kernel
theorem dX1_hoursToFill_4 : decode cX1_hoursToFill 4 = .ok (.iconst 0, 1) := by decide +kernel
theorem dX1_hoursToFill_5 : decode cX1_hoursToFill 5 = .ok (.ireturn, 1) := by decide +kernel
theorem dX1_hoursToFill_6 : decode cX1_hoursToFill 6 = .ok (.iload_n 1, 1) := by decide +kernel
theorem dX1_hoursToFill_7 : decode cX1_hoursToFill 7 = .ok (.ifCond .gt 7, 3) := by decide +kernel
theorem dX1_hoursToFill_10 : decode cX1_hoursToFill 10 = .ok (.iconst (-1), 1) := by decide +kernel
theorem dX1_hoursToFill_11 : decode cX1_hoursToFill 11 = .ok (.goto 10, 3) := by decide +kernel
theorem dX1_hoursToFill_14 : decode cX1_hoursToFill 14 = .ok (.iload_n 0, 1) := by decide +kernel
theorem dX1_hoursToFill_15 : decode cX1_hoursToFill 15 = .ok (.iload_n 1, 1) := by decide +kernel
theorem dX1_hoursToFill_16 : decode cX1_hoursToFill 16 = .ok (.iadd, 1) := by decide +kernel
theorem dX1_hoursToFill_17 : decode cX1_hoursToFill 17 = .ok (.iconst 1, 1) := by decide +kernel
theorem dX1_hoursToFill_18 : decode cX1_hoursToFill 18 = .ok (.isub, 1) := by decide +kernel
theorem dX1_hoursToFill_19 : decode cX1_hoursToFill 19 = .ok (.iload_n 1, 1) := by decide +kernel
theorem dX1_hoursToFill_20 : decode cX1_hoursToFill 20 = .ok (.idiv, 1) := by decide +kernel
theorem dX1_hoursToFill_21 : decode cX1_hoursToFill 21 = .ok (.ireturn, 1) := by decide +kernel
theorem dX1_nextOrder_0 : decode cX1_nextOrder 0 = .ok (.aload_n 0, 1) := by decide +kernel
theorem dX1_nextOrder_1 : decode cX1_nextOrder 1 = .ok (.getfield 30, 3) := by decide +kernel
theorem dX1_nextOrder_4 : decode cX1_nextOrder 4 = .ok (.iconst 2, 1) := by decide +kernel
theorem dX1_nextOrder_5 : decode cX1_nextOrder 5 = .ok (.isub, 1) := by decide +kernel
theorem dX1_nextOrder_6 : decode cX1_nextOrder 6 = .ok (.istore_n 1, 1) := by decide +kernel
theorem dX1_nextOrder_7 : decode cX1_nextOrder 7 = .ok (.iload_n 1, 1) := by decide +kernel
theorem dX1_nextOrder_8 : decode cX1_nextOrder 8 = .ok (.ifCond .lt 26, 3) := by decide +kernel
theorem dX1_nextOrder_11 : decode cX1_nextOrder 11 = .ok (.aload_n 0, 1) := by decide +kernel
theorem dX1_nextOrder_12 : decode cX1_nextOrder 12 = .ok (.getfield 17, 3) := by decide +kernel
theorem dX1_nextOrder_15 : decode cX1_nextOrder 15 = .ok (.iload_n 1, 1) := by decide +kernel
theorem dX1_nextOrder_16 : decode cX1_nextOrder 16 = .ok (.iaload, 1) := by decide +kernel
theorem dX1_nextOrder_17 : decode cX1_nextOrder 17 = .ok (.aload_n 0, 1) := by decide +kernel
theorem dX1_nextOrder_18 : decode cX1_nextOrder 18 = .ok (.getfield 17, 3) := by decide +kernel
theorem dX1_nextOrder_21 : decode cX1_nextOrder 21 = .ok (.iload_n 1, 1) := by decide +kernel
theorem dX1_nextOrder_22 : decode cX1_nextOrder 22 = .ok (.iconst 1, 1) := by decide +kernel
theorem dX1_nextOrder_23 : decode cX1_nextOrder 23 = .ok (.iadd, 1) := by decide +kernel
theorem dX1_nextOrder_24 : decode cX1_nextOrder 24 = .ok (.iaload, 1) := by decide +kernel
theorem dX1_nextOrder_25 : decode cX1_nextOrder 25 = .ok (.if_icmp .le 9, 3) := by decide +kernel
theorem dX1_nextOrder_28 : decode cX1_nextOrder 28 = .ok (.iinc 1 (-1), 3) := by decide +kernel
theorem dX1_nextOrder_31 : decode cX1_nextOrder 31 = .ok (.goto (-24), 3) := by decide +kernel
theorem dX1_nextOrder_34 : decode cX1_nextOrder 34 = .ok (.iload_n 1, 1) := by decide +kernel
theorem dX1_nextOrder_35 : decode cX1_nextOrder 35 = .ok (.ifCond .ge 5, 3) := by decide +kernel
theorem dX1_nextOrder_38 : decode cX1_nextOrder 38 = .ok (.iconst 0, 1) := by decide +kernel
theorem dX1_nextOrder_39 : decode cX1_nextOrder 39 = .ok (.ireturn, 1) := by decide +kernel
theorem dX1_nextOrder_40 : decode cX1_nextOrder 40 = .ok (.aload_n 0, 1) := by decide +kernel
theorem dX1_nextOrder_41 : decode cX1_nextOrder 41 = .ok (.getfield 30, 3) := by decide +kernel
theorem dX1_nextOrder_44 : decode cX1_nextOrder 44 = .ok (.iconst 1, 1) := by decide +kernel
theorem dX1_nextOrder_45 : decode cX1_nextOrder 45 = .ok (.isub, 1) := by decide +kernel
theorem dX1_nextOrder_46 : decode cX1_nextOrder 46 = .ok (.istore_n 2, 1) := by decide +kernel
theorem dX1_nextOrder_47 : decode cX1_nextOrder 47 = .ok (.iload_n 2, 1) := by decide +kernel
theorem dX1_nextOrder_48 : decode cX1_nextOrder 48 = .ok (.iload_n 1, 1) := by decide +kernel
theorem dX1_nextOrder_49 : decode cX1_nextOrder 49 = .ok (.if_icmp .le 24, 3) := by decide +kernel
theorem dX1_nextOrder_52 : decode cX1_nextOrder 52 = .ok (.aload_n 0, 1) := by decide +kernel
theorem dX1_nextOrder_53 : decode cX1_nextOrder 53 = .ok (.getfield 17, 3) := by decide +kernel
theorem dX1_nextOrder_56 : decode cX1_nextOrder 56 = .ok (.iload_n 2, 1) := by decide +kernel
theorem dX1_nextOrder_57 : decode cX1_nextOrder 57 = .ok (.iaload, 1) := by decide +kernel
theorem dX1_nextOrder_58 : decode cX1_nextOrder 58 = .ok (.aload_n 0, 1) := by decide +kernel
theorem dX1_nextOrder_59 : decode cX1_nextOrder 59 = .ok (.getfield 17, 3) := by decide +kernel
theorem dX1_nextOrder_62 : decode cX1_nextOrder 62 = .ok (.iload_n 1, 1) := by decide +kernel
theorem dX1_nextOrder_63 : decode cX1_nextOrder 63 = .ok (.iaload, 1) := by decide +kernel
theorem dX1_nextOrder_64 : decode cX1_nextOrder 64 = .ok (.if_icmp .ge 9, 3) := by decide +kernel
theorem dX1_nextOrder_67 : decode cX1_nextOrder 67 = .ok (.iinc 2 (-1), 3) := by decide +kernel
theorem dX1_nextOrder_70 : decode cX1_nextOrder 70 = .ok (.goto (-23), 3) := by decide +kernel
theorem dX1_nextOrder_73 : decode cX1_nextOrder 73 = .ok (.aload_n 0, 1) := by decide +kernel
theorem dX1_nextOrder_74 : decode cX1_nextOrder 74 = .ok (.iload_n 1, 1) := by decide +kernel
theorem dX1_nextOrder_75 : decode cX1_nextOrder 75 = .ok (.iload_n 2, 1) := by decide +kernel
theorem dX1_nextOrder_76 : decode cX1_nextOrder 76 = .ok (.invokevirtual 83, 3) := by decide +kernel
theorem dX1_nextOrder_79 : decode cX1_nextOrder 79 = .ok (.iload_n 1, 1) := by decide +kernel
theorem dX1_nextOrder_80 : decode cX1_nextOrder 80 = .ok (.iconst 1, 1) := by decide +kernel
theorem dX1_nextOrder_81 : decode cX1_nextOrder 81 = .ok (.iadd, 1) := by decide +kernel
theorem dX1_nextOrder_82 : decode cX1_nextOrder 82 = .ok (.istore_n 3, 1) := by decide +kernel
theorem dX1_nextOrder_83 : decode cX1_nextOrder 83 = .ok (.aload_n 0, 1) := by decide +kernel
theorem dX1_nextOrder_84 : decode cX1_nextOrder 84 = .ok (.getfield 30, 3) := by decide +kernel
theorem dX1_nextOrder_87 : decode cX1_nextOrder 87 = .ok (.iconst 1, 1) := by decide +kernel
theorem dX1_nextOrder_88 : decode cX1_nextOrder 88 = .ok (.isub, 1) := by decide +kernel
theorem dX1_nextOrder_89 : decode cX1_nextOrder 89 = .ok (.istore 4, 2) := by decide +kernel
theorem dX1_nextOrder_91 : decode cX1_nextOrder 91 = .ok (.iload_n 3, 1) := by decide +kernel
theorem dX1_nextOrder_92 : decode cX1_nextOrder 92 = .ok (.iload 4, 2) := by decide +kernel
theorem dX1_nextOrder_94 : decode cX1_nextOrder 94 = .ok (.if_icmp .ge 19, 3) := by decide +kernel
theorem dX1_nextOrder_97 : decode cX1_nextOrder 97 = .ok (.aload_n 0, 1) := by decide +kernel
theorem dX1_nextOrder_98 : decode cX1_nextOrder 98 = .ok (.iload_n 3, 1) := by decide +kernel
theorem dX1_nextOrder_99 : decode cX1_nextOrder 99 = .ok (.iload 4, 2) := by decide +kernel
theorem dX1_nextOrder_101 : decode cX1_nextOrder 101 = .ok (.invokevirtual 83, 3) := by decide +kernel
theorem dX1_nextOrder_104 : decode cX1_nextOrder 104 = .ok (.iinc 3 1, 3) := by decide +kernel
theorem dX1_nextOrder_107 : decode cX1_nextOrder 107 = .ok (.iinc 4 (-1), 3) := by decide +kernel
theorem dX1_nextOrder_110 : decode cX1_nextOrder 110 = .ok (.goto (-19), 3) := by decide +kernel
theorem dX1_nextOrder_113 : decode cX1_nextOrder 113 = .ok (.iconst 1, 1) := by decide +kernel
theorem dX1_nextOrder_114 : decode cX1_nextOrder 114 = .ok (.ireturn, 1) := by decide +kernel
theorem dX1_swap_0 : decode cX1_swap 0 = .ok (.aload_n 0, 1) := by decide +kernel
theorem dX1_swap_1 : decode cX1_swap 1 = .ok (.getfield 17, 3) := by decide +kernel
theorem dX1_swap_4 : decode cX1_swap 4 = .ok (.iload_n 1, 1) := by decide +kernel
theorem dX1_swap_5 : decode cX1_swap 5 = .ok (.iaload, 1) := by decide +kernel
theorem dX1_swap_6 : decode cX1_swap 6 = .ok (.istore_n 3, 1) := by decide +kernel
theorem dX1_swap_7 : decode cX1_swap 7 = .ok (.aload_n 0, 1) := by decide +kernel
theorem dX1_swap_8 : decode cX1_swap 8 = .ok (.getfield 17, 3) := by decide +kernel
theorem dX1_swap_11 : decode cX1_swap 11 = .ok (.iload_n 1, 1) := by decide +kernel
theorem dX1_swap_12 : decode cX1_swap 12 = .ok (.aload_n 0, 1) := by decide +kernel
theorem dX1_swap_13 : decode cX1_swap 13 = .ok (.getfield 17, 3) := by decide +kernel
theorem dX1_swap_16 : decode cX1_swap 16 = .ok (.iload_n 2, 1) := by decide +kernel
theorem dX1_swap_17 : decode cX1_swap 17 = .ok (.iaload, 1) := by decide +kernel
theorem dX1_swap_18 : decode cX1_swap 18 = .ok (.iastore, 1) := by decide +kernel
theorem dX1_swap_19 : decode cX1_swap 19 = .ok (.aload_n 0, 1) := by decide +kernel
theorem dX1_swap_20 : decode cX1_swap 20 = .ok (.getfield 17, 3) := by decide +kernel
theorem dX1_swap_23 : decode cX1_swap 23 = .ok (.iload_n 2, 1) := by decide +kernel
theorem dX1_swap_24 : decode cX1_swap 24 = .ok (.iload_n 3, 1) := by decide +kernel
theorem dX1_swap_25 : decode cX1_swap 25 = .ok (.iastore, 1) := by decide +kernel
theorem dX1_swap_26 : decode cX1_swap 26 = .ok (.return_, 1) := by decide +kernel
theorem dX2_init_0 : decode cX2_init 0 = .ok (.aload_n 0, 1) := by decide +kernel
theorem dX2_init_1 : decode cX2_init 1 = .ok (.invokespecial 3, 3) := by decide +kernel
theorem dX2_init_4 : decode cX2_init 4 = .ok (.aload_n 0, 1) := by decide +kernel
theorem dX2_init_5 : decode cX2_init 5 = .ok (.bipush 8, 2) := by decide +kernel
theorem dX2_init_7 : decode cX2_init 7 = .ok (.anewarray 11, 3) := by decide +kernel
theorem dX2_init_10 : decode cX2_init 10 = .ok (.putfield 13, 3) := by decide +kernel
theorem dX2_init_13 : decode cX2_init 13 = .ok (.aload_n 0, 1) := by decide +kernel
theorem dX2_init_14 : decode cX2_init 14 = .ok (.iconst 0, 1) := by decide +kernel
theorem dX2_init_15 : decode cX2_init 15 = .ok (.putfield 17, 3) := by decide +kernel
theorem dX2_init_18 : decode cX2_init 18 = .ok (.aload_n 0, 1) := by decide +kernel
theorem dX2_init_19 : decode cX2_init 19 = .ok (.aconst_null, 1) := by decide +kernel
theorem dX2_init_20 : decode cX2_init 20 = .ok (.putfield 21, 3) := by decide +kernel
theorem dX2_init_23 : decode cX2_init 23 = .ok (.aload_n 0, 1) := by decide +kernel
theorem dX2_init_24 : decode cX2_init 24 = .ok (.iconst (-1), 1) := by decide +kernel
theorem dX2_init_25 : decode cX2_init 25 = .ok (.putfield 25, 3) := by decide +kernel
theorem dX2_init_28 : decode cX2_init 28 = .ok (.aload_n 0, 1) := by decide +kernel
theorem dX2_init_29 : decode cX2_init 29 = .ok (.iload_n 1, 1) := by decide +kernel
theorem dX2_init_30 : decode cX2_init 30 = .ok (.putfield 28, 3) := by decide +kernel
theorem dX2_init_33 : decode cX2_init 33 = .ok (.aload_n 0, 1) := by decide +kernel
theorem dX2_init_34 : decode cX2_init 34 = .ok (.aload_n 2, 1) := by decide +kernel
theorem dX2_init_35 : decode cX2_init 35 = .ok (.putfield 31, 3) := by decide +kernel
theorem dX2_init_38 : decode cX2_init 38 = .ok (.return_, 1) := by decide +kernel
theorem dX2_state_0 : decode cX2_state 0 = .ok (.aload_n 0, 1) := by decide +kernel
theorem dX2_state_1 : decode cX2_state 1 = .ok (.getfield 17, 3) := by decide +kernel
theorem dX2_state_4 : decode cX2_state 4 = .ok (.ifCond .ne 5, 3) := by decide +kernel
theorem dX2_state_7 : decode cX2_state 7 = .ok (.iconst 3, 1) := by decide +kernel
theorem dX2_state_8 : decode cX2_state 8 = .ok (.ireturn, 1) := by decide +kernel
theorem dX2_state_9 : decode cX2_state 9 = .ok (.aload_n 0, 1) := by decide +kernel
theorem dX2_state_10 : decode cX2_state 10 = .ok (.getfield 21, 3) := by decide +kernel
theorem dX2_state_13 : decode cX2_state 13 = .ok (.ifnonnull 5, 3) := by decide +kernel
theorem dX2_state_16 : decode cX2_state 16 = .ok (.iconst 0, 1) := by decide +kernel
theorem dX2_state_17 : decode cX2_state 17 = .ok (.ireturn, 1) := by decide +kernel
theorem dX2_state_18 : decode cX2_state 18 = .ok (.aload_n 0, 1) := by decide +kernel
theorem dX2_state_19 : decode cX2_state 19 = .ok (.getfield 25, 3) := by decide +kernel
theorem dX2_state_22 : decode cX2_state 22 = .ok (.iconst (-1), 1) := by decide +kernel
theorem dX2_state_23 : decode cX2_state 23 = .ok (.if_icmp .ne 7, 3) := by decide +kernel
theorem dX2_state_26 : decode cX2_state 26 = .ok (.iconst 1, 1) := by decide +kernel
theorem dX2_state_27 : decode cX2_state 27 = .ok (.goto 4, 3) := by decide +kernel
theorem dX2_state_30 : decode cX2_state 30 = .ok (.iconst 2, 1) := by decide +kernel
theorem dX2_state_31 : decode cX2_state 31 = .ok (.ireturn, 1) := by decide +kernel
theorem dX2_need_0 : decode cX2_need 0 = .ok (.iconst 5, 1) := by decide +kernel
theorem dX2_need_1 : decode cX2_need 1 = .ok (.aload_n 0, 1) := by decide +kernel
theorem dX2_need_2 : decode cX2_need 2 = .ok (.getfield 17, 3) := by decide +kernel
theorem dX2_need_5 : decode cX2_need 5 = .ok (.imul, 1) := by decide +kernel
theorem dX2_need_6 : decode cX2_need 6 = .ok (.ireturn, 1) := by decide +kernel
theorem dX2_width_0 : decode cX2_width 0 = .ok (.iconst 0, 1) := by decide +kernel
theorem dX2_width_1 : decode cX2_width 1 = .ok (.istore_n 1, 1) := by decide +kernel
theorem dX2_width_2 : decode cX2_width 2 = .ok (.iconst 0, 1) := by decide +kernel
theorem dX2_width_3 : decode cX2_width 3 = .ok (.istore_n 2, 1) := by decide +kernel
theorem dX2_width_4 : decode cX2_width 4 = .ok (.iload_n 2, 1) := by decide +kernel
theorem dX2_width_5 : decode cX2_width 5 = .ok (.aload_n 0, 1) := by decide +kernel
theorem dX2_width_6 : decode cX2_width 6 = .ok (.getfield 17, 3) := by decide +kernel
theorem dX2_width_9 : decode cX2_width 9 = .ok (.if_icmp .ge 23, 3) := by decide +kernel
theorem dX2_width_12 : decode cX2_width 12 = .ok (.iload_n 1, 1) := by decide +kernel
theorem dX2_width_13 : decode cX2_width 13 = .ok (.aload_n 0, 1) := by decide +kernel
theorem dX2_width_14 : decode cX2_width 14 = .ok (.getfield 13, 3) := by decide +kernel
theorem dX2_width_17 : decode cX2_width 17 = .ok (.iload_n 2, 1) := by decide +kernel
theorem dX2_width_18 : decode cX2_width 18 = .ok (.aaload, 1) := by decide +kernel
theorem dX2_width_19 : decode cX2_width 19 = .ok (.getfield 35, 3) := by decide +kernel
theorem dX2_width_22 : decode cX2_width 22 = .ok (.invokestatic 38, 3) := by decide +kernel
theorem dX2_width_25 : decode cX2_width 25 = .ok (.istore_n 1, 1) := by decide +kernel
theorem dX2_width_26 : decode cX2_width 26 = .ok (.iinc 2 1, 3) := by decide +kernel
theorem dX2_width_29 : decode cX2_width 29 = .ok (.goto (-25), 3) := by decide +kernel
theorem dX2_width_32 : decode cX2_width 32 = .ok (.iload_n 1, 1) := by decide +kernel
theorem dX2_width_33 : decode cX2_width 33 = .ok (.ireturn, 1) := by decide +kernel
theorem dX2_trunkCount_0 : decode cX2_trunkCount 0 = .ok (.iconst 0, 1) := by decide +kernel
theorem dX2_trunkCount_1 : decode cX2_trunkCount 1 = .ok (.istore_n 1, 1) := by decide +kernel
theorem dX2_trunkCount_2 : decode cX2_trunkCount 2 = .ok (.iconst 0, 1) := by decide +kernel
theorem dX2_trunkCount_3 : decode cX2_trunkCount 3 = .ok (.istore_n 2, 1) := by decide +kernel
theorem dX2_trunkCount_4 : decode cX2_trunkCount 4 = .ok (.iload_n 2, 1) := by decide +kernel
theorem dX2_trunkCount_5 : decode cX2_trunkCount 5 = .ok (.aload_n 0, 1) := by decide +kernel
theorem dX2_trunkCount_6 : decode cX2_trunkCount 6 = .ok (.getfield 17, 3) := by decide +kernel
theorem dX2_trunkCount_9 : decode cX2_trunkCount 9 = .ok (.if_icmp .ge 21, 3) := by decide +kernel
theorem dX2_trunkCount_12 : decode cX2_trunkCount 12 = .ok (.iload_n 1, 1) := by decide +kernel
theorem dX2_trunkCount_13 : decode cX2_trunkCount 13 = .ok (.aload_n 0, 1) := by decide +kernel
theorem dX2_trunkCount_14 : decode cX2_trunkCount 14 = .ok (.getfield 13, 3) := by decide +kernel
theorem dX2_trunkCount_17 : decode cX2_trunkCount 17 = .ok (.iload_n 2, 1) := by decide +kernel
theorem dX2_trunkCount_18 : decode cX2_trunkCount 18 = .ok (.aaload, 1) := by decide +kernel
theorem dX2_trunkCount_19 : decode cX2_trunkCount 19 = .ok (.getfield 44, 3) := by decide +kernel
theorem dX2_trunkCount_22 : decode cX2_trunkCount 22 = .ok (.iadd, 1) := by decide +kernel
theorem dX2_trunkCount_23 : decode cX2_trunkCount 23 = .ok (.istore_n 1, 1) := by decide +kernel
theorem dX2_trunkCount_24 : decode cX2_trunkCount 24 = .ok (.iinc 2 1, 3) := by decide +kernel
theorem dX2_trunkCount_27 : decode cX2_trunkCount 27 = .ok (.goto (-23), 3) := by decide +kernel
theorem dX2_trunkCount_30 : decode cX2_trunkCount 30 = .ok (.iload_n 1, 1) := by decide +kernel
theorem dX2_trunkCount_31 : decode cX2_trunkCount 31 = .ok (.ireturn, 1) := by decide +kernel
theorem dX2_firstTrunk_0 : decode cX2_firstTrunk 0 = .ok (.aload_n 0, 1) := by decide +kernel
theorem dX2_firstTrunk_1 : decode cX2_firstTrunk 1 = .ok (.getfield 17, 3) := by decide +kernel
theorem dX2_firstTrunk_4 : decode cX2_firstTrunk 4 = .ok (.ifCond .le 29, 3) := by decide +kernel
theorem dX2_firstTrunk_7 : decode cX2_firstTrunk 7 = .ok (.aload_n 0, 1) := by decide +kernel
theorem dX2_firstTrunk_8 : decode cX2_firstTrunk 8 = .ok (.getfield 13, 3) := by decide +kernel
theorem dX2_firstTrunk_11 : decode cX2_firstTrunk 11 = .ok (.iconst 0, 1) := by decide +kernel
theorem dX2_firstTrunk_12 : decode cX2_firstTrunk 12 = .ok (.aaload, 1) := by decide +kernel
theorem dX2_firstTrunk_13 : decode cX2_firstTrunk 13 = .ok (.getfield 44, 3) := by decide +kernel
theorem dX2_firstTrunk_16 : decode cX2_firstTrunk 16 = .ok (.ifCond .le 17, 3) := by decide +kernel
theorem dX2_firstTrunk_19 : decode cX2_firstTrunk 19 = .ok (.aload_n 0, 1) := by decide +kernel
theorem dX2_firstTrunk_20 : decode cX2_firstTrunk 20 = .ok (.getfield 13, 3) := by decide +kernel
theorem dX2_firstTrunk_23 : decode cX2_firstTrunk 23 = .ok (.iconst 0, 1) := by decide +kernel
theorem dX2_firstTrunk_24 : decode cX2_firstTrunk 24 = .ok (.aaload, 1) := by decide +kernel
theorem dX2_firstTrunk_25 : decode cX2_firstTrunk 25 = .ok (.getfield 45, 3) := by decide +kernel
theorem dX2_firstTrunk_28 : decode cX2_firstTrunk 28 = .ok (.iconst 0, 1) := by decide +kernel
theorem dX2_firstTrunk_29 : decode cX2_firstTrunk 29 = .ok (.aaload, 1) := by decide +kernel
theorem dX2_firstTrunk_30 : decode cX2_firstTrunk 30 = .ok (.goto 4, 3) := by decide +kernel
theorem dX2_firstTrunk_33 : decode cX2_firstTrunk 33 = .ok (.aconst_null, 1) := by decide +kernel
theorem dX2_firstTrunk_34 : decode cX2_firstTrunk 34 = .ok (.areturn, 1) := by decide +kernel
theorem dX2_fits_0 : decode cX2_fits 0 = .ok (.aload_n 0, 1) := by decide +kernel
theorem dX2_fits_1 : decode cX2_fits 1 = .ok (.getfield 31, 3) := by decide +kernel
theorem dX2_fits_4 : decode cX2_fits 4 = .ok (.aload_n 1, 1) := by decide +kernel
theorem dX2_fits_5 : decode cX2_fits 5 = .ok (.if_acmp .ne 26, 3) := by decide +kernel
theorem dX2_fits_8 : decode cX2_fits 8 = .ok (.aload_n 0, 1) := by decide +kernel
theorem dX2_fits_9 : decode cX2_fits 9 = .ok (.invokevirtual 49, 3) := by decide +kernel
theorem dX2_fits_12 : decode cX2_fits 12 = .ok (.iconst 1, 1) := by decide +kernel
theorem dX2_fits_13 : decode cX2_fits 13 = .ok (.if_icmp .ne 18, 3) := by decide +kernel
theorem dX2_fits_16 : decode cX2_fits 16 = .ok (.aload_n 0, 1) := by decide +kernel
theorem dX2_fits_17 : decode cX2_fits 17 = .ok (.invokevirtual 53, 3) := by decide +kernel
theorem dX2_fits_20 : decode cX2_fits 20 = .ok (.aload_n 1, 1) := by decide +kernel
theorem dX2_fits_21 : decode cX2_fits 21 = .ok (.getfield 55, 3) := by decide +kernel
theorem dX2_fits_24 : decode cX2_fits 24 = .ok (.if_icmp .gt 7, 3) := by decide +kernel
theorem dX2_fits_27 : decode cX2_fits 27 = .ok (.iconst 1, 1) := by decide +kernel
theorem dX2_fits_28 : decode cX2_fits 28 = .ok (.goto 4, 3) := by decide +kernel
theorem dX2_fits_31 : decode cX2_fits 31 = .ok (.iconst 0, 1) := by decide +kernel
theorem dX2_fits_32 : decode cX2_fits 32 = .ok (.ireturn, 1) := by decide +kernel
theorem dX2_append_0 : decode cX2_append 0 = .ok (.aload_n 0, 1) := by decide +kernel
theorem dX2_append_1 : decode cX2_append 1 = .ok (.getfield 17, 3) := by decide +kernel
theorem dX2_append_4 : decode cX2_append 4 = .ok (.bipush 8, 2) := by decide +kernel
theorem dX2_append_6 : decode cX2_append 6 = .ok (.if_icmp .ge 28, 3) := by decide +kernel
theorem dX2_append_9 : decode cX2_append 9 = .ok (.aload_n 0, 1) := by decide +kernel
theorem dX2_append_10 : decode cX2_append 10 = .ok (.getfield 13, 3) := by decide +kernel
theorem dX2_append_13 : decode cX2_append 13 = .ok (.aload_n 0, 1) := by decide +kernel
theorem dX2_append_14 : decode cX2_append 14 = .ok (.getfield 17, 3) := by decide +kernel
theorem dX2_append_17 : decode cX2_append 17 = .ok (.aload_n 1, 1) := by decide +kernel
theorem dX2_append_18 : decode cX2_append 18 = .ok (.aastore, 1) := by decide +kernel
theorem dX2_append_19 : decode cX2_append 19 = .ok (.aload_n 0, 1) := by decide +kernel
theorem dX2_append_20 : decode cX2_append 20 = .ok (.dup, 1) := by decide +kernel
theorem dX2_append_21 : decode cX2_append 21 = .ok (.getfield 17, 3) := by decide +kernel
theorem dX2_append_24 : decode cX2_append 24 = .ok (.iconst 1, 1) := by decide +kernel
theorem dX2_append_25 : decode cX2_append 25 = .ok (.iadd, 1) := by decide +kernel
theorem dX2_append_26 : decode cX2_append 26 = .ok (.putfield 17, 3) := by decide +kernel
theorem dX2_append_29 : decode cX2_append 29 = .ok (.aload_n 1, 1) := by decide +kernel
theorem dX2_append_30 : decode cX2_append 30 = .ok (.aload_n 0, 1) := by decide +kernel
theorem dX2_append_31 : decode cX2_append 31 = .ok (.invokevirtual 60, 3) := by decide +kernel
theorem dX2_append_34 : decode cX2_append 34 = .ok (.return_, 1) := by decide +kernel
theorem dX2_moveRows_0 : decode cX2_moveRows 0 = .ok (.iconst 0, 1) := by decide +kernel
theorem dX2_moveRows_1 : decode cX2_moveRows 1 = .ok (.iload_n 1, 1) := by decide +kernel
theorem dX2_moveRows_2 : decode cX2_moveRows 2 = .ok (.invokestatic 38, 3) := by decide +kernel
theorem dX2_moveRows_5 : decode cX2_moveRows 5 = .ok (.istore_n 3, 1) := by decide +kernel
theorem dX2_moveRows_6 : decode cX2_moveRows 6 = .ok (.iload_n 3, 1) := by decide +kernel
theorem dX2_moveRows_7 : decode cX2_moveRows 7 = .ok (.aload_n 0, 1) := by decide +kernel
theorem dX2_moveRows_8 : decode cX2_moveRows 8 = .ok (.getfield 17, 3) := by decide +kernel
theorem dX2_moveRows_11 : decode cX2_moveRows 11 = .ok (.if_icmp .ge 19, 3) := by decide +kernel
theorem dX2_moveRows_14 : decode cX2_moveRows 14 = .ok (.aload_n 2, 1) := by decide +kernel
theorem dX2_moveRows_15 : decode cX2_moveRows 15 = .ok (.aload_n 0, 1) := by decide +kernel
theorem dX2_moveRows_16 : decode cX2_moveRows 16 = .ok (.getfield 13, 3) := by decide +kernel
theorem dX2_moveRows_19 : decode cX2_moveRows 19 = .ok (.iload_n 3, 1) := by decide +kernel
theorem dX2_moveRows_20 : decode cX2_moveRows 20 = .ok (.aaload, 1) := by decide +kernel
theorem dX2_moveRows_21 : decode cX2_moveRows 21 = .ok (.invokevirtual 64, 3) := by decide +kernel
theorem dX2_moveRows_24 : decode cX2_moveRows 24 = .ok (.iinc 3 1, 3) := by decide +kernel
theorem dX2_moveRows_27 : decode cX2_moveRows 27 = .ok (.goto (-21), 3) := by decide +kernel
theorem dX2_moveRows_30 : decode cX2_moveRows 30 = .ok (.aload_n 0, 1) := by decide +kernel
theorem dX2_moveRows_31 : decode cX2_moveRows 31 = .ok (.aload_n 0, 1) := by decide +kernel
theorem dX2_moveRows_32 : decode cX2_moveRows 32 = .ok (.getfield 17, 3) := by decide +kernel
theorem dX2_moveRows_35 : decode cX2_moveRows 35 = .ok (.iconst 0, 1) := by decide +kernel
theorem dX2_moveRows_36 : decode cX2_moveRows 36 = .ok (.iload_n 1, 1) := by decide +kernel
theorem dX2_moveRows_37 : decode cX2_moveRows 37 = .ok (.invokestatic 38, 3) := by decide +kernel
theorem dX2_moveRows_40 : decode cX2_moveRows 40 = .ok (.invokestatic 68, 3) := by decide +kernel
theorem dX2_moveRows_43 : decode cX2_moveRows 43 = .ok (.putfield 17, 3) := by decide +kernel
theorem dX2_moveRows_46 : decode cX2_moveRows 46 = .ok (.return_, 1) := by decide +kernel
theorem dX2_end_0 : decode cX2_end 0 = .ok (.aload_n 0, 1) := by decide +kernel
theorem dX2_end_1 : decode cX2_end 1 = .ok (.iconst 0, 1) := by decide +kernel
theorem dX2_end_2 : decode cX2_end 2 = .ok (.putfield 17, 3) := by decide +kernel
theorem dX2_end_5 : decode cX2_end 5 = .ok (.aload_n 0, 1) := by decide +kernel
theorem dX2_end_6 : decode cX2_end 6 = .ok (.aconst_null, 1) := by decide +kernel
theorem dX2_end_7 : decode cX2_end 7 = .ok (.putfield 31, 3) := by decide +kernel
theorem dX2_end_10 : decode cX2_end 10 = .ok (.return_, 1) := by decide +kernel
theorem dX2_goDown_0 : decode cX2_goDown 0 = .ok (.aload_n 0, 1) := by decide +kernel
theorem dX2_goDown_1 : decode cX2_goDown 1 = .ok (.iload_n 2, 1) := by decide +kernel
theorem dX2_goDown_2 : decode cX2_goDown 2 = .ok (.aload_n 1, 1) := by decide +kernel
theorem dX2_goDown_3 : decode cX2_goDown 3 = .ok (.getfield 71, 3) := by decide +kernel
theorem dX2_goDown_6 : decode cX2_goDown 6 = .ok (.iadd, 1) := by decide +kernel
theorem dX2_goDown_7 : decode cX2_goDown 7 = .ok (.putfield 25, 3) := by decide +kernel
theorem dX2_goDown_10 : decode cX2_goDown 10 = .ok (.aload_n 0, 1) := by decide +kernel
theorem dX2_goDown_11 : decode cX2_goDown 11 = .ok (.aload_n 1, 1) := by decide +kernel
theorem dX2_goDown_12 : decode cX2_goDown 12 = .ok (.getfield 74, 3) := by decide +kernel
theorem dX2_goDown_15 : decode cX2_goDown 15 = .ok (.putfield 31, 3) := by decide +kernel
theorem dX2_goDown_18 : decode cX2_goDown 18 = .ok (.return_, 1) := by decide +kernel
theorem dX2_landCrew_0 : decode cX2_landCrew 0 = .ok (.aload_n 0, 1) := by decide +kernel
theorem dX2_landCrew_1 : decode cX2_landCrew 1 = .ok (.getfield 21, 3) := by decide +kernel
theorem dX2_landCrew_4 : decode cX2_landCrew 4 = .ok (.astore_n 1, 1) := by decide +kernel
theorem dX2_landCrew_5 : decode cX2_landCrew 5 = .ok (.aload_n 1, 1) := by decide +kernel
theorem dX2_landCrew_6 : decode cX2_landCrew 6 = .ok (.ifnull 16, 3) := by decide +kernel
theorem dX2_landCrew_9 : decode cX2_landCrew 9 = .ok (.aload_n 1, 1) := by decide +kernel
theorem dX2_landCrew_10 : decode cX2_landCrew 10 = .ok (.aconst_null, 1) := by decide +kernel
theorem dX2_landCrew_11 : decode cX2_landCrew 11 = .ok (.putfield 77, 3) := by decide +kernel
theorem dX2_landCrew_14 : decode cX2_landCrew 14 = .ok (.aload_n 1, 1) := by decide +kernel
theorem dX2_landCrew_15 : decode cX2_landCrew 15 = .ok (.aload_n 0, 1) := by decide +kernel
theorem dX2_landCrew_16 : decode cX2_landCrew 16 = .ok (.getfield 31, 3) := by decide +kernel
theorem dX2_landCrew_19 : decode cX2_landCrew 19 = .ok (.putfield 83, 3) := by decide +kernel
theorem dX2_landCrew_22 : decode cX2_landCrew 22 = .ok (.aload_n 0, 1) := by decide +kernel
theorem dX2_landCrew_23 : decode cX2_landCrew 23 = .ok (.aconst_null, 1) := by decide +kernel
theorem dX2_landCrew_24 : decode cX2_landCrew 24 = .ok (.putfield 21, 3) := by decide +kernel
theorem dX2_landCrew_27 : decode cX2_landCrew 27 = .ok (.aload_n 0, 1) := by decide +kernel
theorem dX2_landCrew_28 : decode cX2_landCrew 28 = .ok (.iconst (-1), 1) := by decide +kernel
theorem dX2_landCrew_29 : decode cX2_landCrew 29 = .ok (.putfield 25, 3) := by decide +kernel
theorem dX2_landCrew_32 : decode cX2_landCrew 32 = .ok (.aload_n 1, 1) := by decide +kernel
theorem dX2_landCrew_33 : decode cX2_landCrew 33 = .ok (.areturn, 1) := by decide +kernel
theorem dX2_loseTrunks_0 : decode cX2_loseTrunks 0 = .ok (.iconst 0, 1) := by decide +kernel
theorem dX2_loseTrunks_1 : decode cX2_loseTrunks 1 = .ok (.istore_n 2, 1) := by decide +kernel
theorem dX2_loseTrunks_2 : decode cX2_loseTrunks 2 = .ok (.iconst 0, 1) := by decide +kernel
theorem dX2_loseTrunks_3 : decode cX2_loseTrunks 3 = .ok (.istore_n 3, 1) := by decide +kernel
theorem dX2_loseTrunks_4 : decode cX2_loseTrunks 4 = .ok (.iload_n 3, 1) := by decide +kernel
theorem dX2_loseTrunks_5 : decode cX2_loseTrunks 5 = .ok (.aload_n 0, 1) := by decide +kernel
theorem dX2_loseTrunks_6 : decode cX2_loseTrunks 6 = .ok (.getfield 17, 3) := by decide +kernel
theorem dX2_loseTrunks_9 : decode cX2_loseTrunks 9 = .ok (.if_icmp .ge 22, 3) := by decide +kernel
theorem dX2_loseTrunks_12 : decode cX2_loseTrunks 12 = .ok (.iload_n 2, 1) := by decide +kernel
theorem dX2_loseTrunks_13 : decode cX2_loseTrunks 13 = .ok (.aload_n 0, 1) := by decide +kernel
theorem dX2_loseTrunks_14 : decode cX2_loseTrunks 14 = .ok (.getfield 13, 3) := by decide +kernel
theorem dX2_loseTrunks_17 : decode cX2_loseTrunks 17 = .ok (.iload_n 3, 1) := by decide +kernel
theorem dX2_loseTrunks_18 : decode cX2_loseTrunks 18 = .ok (.aaload, 1) := by decide +kernel
theorem dX2_loseTrunks_19 : decode cX2_loseTrunks 19 = .ok (.iload_n 1, 1) := by decide +kernel
theorem dX2_loseTrunks_20 : decode cX2_loseTrunks 20 = .ok (.invokevirtual 84, 3) := by decide +kernel
theorem dX2_loseTrunks_23 : decode cX2_loseTrunks 23 = .ok (.iadd, 1) := by decide +kernel
theorem dX2_loseTrunks_24 : decode cX2_loseTrunks 24 = .ok (.istore_n 2, 1) := by decide +kernel
theorem dX2_loseTrunks_25 : decode cX2_loseTrunks 25 = .ok (.iinc 3 1, 3) := by decide +kernel
theorem dX2_loseTrunks_28 : decode cX2_loseTrunks 28 = .ok (.goto (-24), 3) := by decide +kernel
theorem dX2_loseTrunks_31 : decode cX2_loseTrunks 31 = .ok (.iload_n 2, 1) := by decide +kernel
theorem dX2_loseTrunks_32 : decode cX2_loseTrunks 32 = .ok (.ireturn, 1) := by decide +kernel
theorem dX2_scatter_0 : decode cX2_scatter 0 = .ok (.iconst 0, 1) := by decide +kernel
theorem dX2_scatter_1 : decode cX2_scatter 1 = .ok (.istore_n 1, 1) := by decide +kernel
theorem dX2_scatter_2 : decode cX2_scatter 2 = .ok (.iload_n 1, 1) := by decide +kernel
theorem dX2_scatter_3 : decode cX2_scatter 3 = .ok (.aload_n 0, 1) := by decide +kernel
theorem dX2_scatter_4 : decode cX2_scatter 4 = .ok (.getfield 17, 3) := by decide +kernel
theorem dX2_scatter_7 : decode cX2_scatter 7 = .ok (.if_icmp .ge 22, 3) := by decide +kernel
theorem dX2_scatter_10 : decode cX2_scatter 10 = .ok (.aload_n 0, 1) := by decide +kernel
theorem dX2_scatter_11 : decode cX2_scatter 11 = .ok (.getfield 13, 3) := by decide +kernel
theorem dX2_scatter_14 : decode cX2_scatter 14 = .ok (.iload_n 1, 1) := by decide +kernel
theorem dX2_scatter_15 : decode cX2_scatter 15 = .ok (.aaload, 1) := by decide +kernel
theorem dX2_scatter_16 : decode cX2_scatter 16 = .ok (.aload_n 0, 1) := by decide +kernel
theorem dX2_scatter_17 : decode cX2_scatter 17 = .ok (.getfield 31, 3) := by decide +kernel
theorem dX2_scatter_20 : decode cX2_scatter 20 = .ok (.invokevirtual 88, 3) := by decide +kernel
theorem dX2_scatter_23 : decode cX2_scatter 23 = .ok (.iinc 1 1, 3) := by decide +kernel
theorem dX2_scatter_26 : decode cX2_scatter 26 = .ok (.goto (-24), 3) := by decide +kernel
theorem dX2_scatter_29 : decode cX2_scatter 29 = .ok (.aload_n 0, 1) := by decide +kernel
theorem dX2_scatter_30 : decode cX2_scatter 30 = .ok (.invokevirtual 92, 3) := by decide +kernel
theorem dX2_scatter_33 : decode cX2_scatter 33 = .ok (.return_, 1) := by decide +kernel
theorem dX3_init_0 : decode cX3_init 0 = .ok (.aload_n 0, 1) := by decide +kernel
theorem dX3_init_1 : decode cX3_init 1 = .ok (.invokespecial 1, 3) := by decide +kernel
theorem dX3_init_4 : decode cX3_init 4 = .ok (.aload_n 0, 1) := by decide +kernel
theorem dX3_init_5 : decode cX3_init 5 = .ok (.bipush 9, 2) := by decide +kernel
theorem dX3_init_7 : decode cX3_init 7 = .ok (.anewarray 9, 3) := by decide +kernel
theorem dX3_init_10 : decode cX3_init 10 = .ok (.putfield 11, 3) := by decide +kernel
theorem dX3_init_13 : decode cX3_init 13 = .ok (.aload_n 0, 1) := by decide +kernel
theorem dX3_init_14 : decode cX3_init 14 = .ok (.iconst 0, 1) := by decide +kernel
theorem dX3_init_15 : decode cX3_init 15 = .ok (.putfield 15, 3) := by decide +kernel
theorem dX3_init_18 : decode cX3_init 18 = .ok (.aload_n 0, 1) := by decide +kernel
theorem dX3_init_19 : decode cX3_init 19 = .ok (.iconst 0, 1) := by decide +kernel
theorem dX3_init_20 : decode cX3_init 20 = .ok (.putfield 19, 3) := by decide +kernel
theorem dX3_init_23 : decode cX3_init 23 = .ok (.return_, 1) := by decide +kernel
theorem dX3_first_0 : decode cX3_first 0 = .ok (.aload_n 0, 1) := by decide +kernel
theorem dX3_first_1 : decode cX3_first 1 = .ok (.getfield 15, 3) := by decide +kernel
theorem dX3_first_4 : decode cX3_first 4 = .ok (.ifCond .le 12, 3) := by decide +kernel
theorem dX3_first_7 : decode cX3_first 7 = .ok (.aload_n 0, 1) := by decide +kernel
theorem dX3_first_8 : decode cX3_first 8 = .ok (.getfield 11, 3) := by decide +kernel
theorem dX3_first_11 : decode cX3_first 11 = .ok (.iconst 0, 1) := by decide +kernel
theorem dX3_first_12 : decode cX3_first 12 = .ok (.aaload, 1) := by decide +kernel
theorem dX3_first_13 : decode cX3_first 13 = .ok (.goto 4, 3) := by decide +kernel
theorem dX3_first_16 : decode cX3_first 16 = .ok (.aconst_null, 1) := by decide +kernel
theorem dX3_first_17 : decode cX3_first 17 = .ok (.areturn, 1) := by decide +kernel
theorem dX3_has_0 : decode cX3_has 0 = .ok (.iconst 0, 1) := by decide +kernel
theorem dX3_has_1 : decode cX3_has 1 = .ok (.istore_n 2, 1) := by decide +kernel
theorem dX3_has_2 : decode cX3_has 2 = .ok (.iload_n 2, 1) := by decide +kernel
theorem dX3_has_3 : decode cX3_has 3 = .ok (.aload_n 0, 1) := by decide +kernel
theorem dX3_has_4 : decode cX3_has 4 = .ok (.getfield 15, 3) := by decide +kernel
theorem dX3_has_7 : decode cX3_has 7 = .ok (.if_icmp .ge 27, 3) := by decide +kernel
theorem dX3_has_10 : decode cX3_has 10 = .ok (.aload_n 0, 1) := by decide +kernel
theorem dX3_has_11 : decode cX3_has 11 = .ok (.getfield 11, 3) := by decide +kernel
theorem dX3_has_14 : decode cX3_has 14 = .ok (.iload_n 2, 1) := by decide +kernel
theorem dX3_has_15 : decode cX3_has 15 = .ok (.aaload, 1) := by decide +kernel
theorem dX3_has_16 : decode cX3_has 16 = .ok (.getfield 22, 3) := by decide +kernel
theorem dX3_has_19 : decode cX3_has 19 = .ok (.aload_n 1, 1) := by decide +kernel
theorem dX3_has_20 : decode cX3_has 20 = .ok (.getfield 22, 3) := by decide +kernel
theorem dX3_has_23 : decode cX3_has 23 = .ok (.if_icmp .ne 5, 3) := by decide +kernel
theorem dX3_has_26 : decode cX3_has 26 = .ok (.iconst 1, 1) := by decide +kernel
theorem dX3_has_27 : decode cX3_has 27 = .ok (.ireturn, 1) := by decide +kernel
theorem dX3_has_28 : decode cX3_has 28 = .ok (.iinc 2 1, 3) := by decide +kernel
theorem dX3_has_31 : decode cX3_has 31 = .ok (.goto (-29), 3) := by decide +kernel
theorem dX3_has_34 : decode cX3_has 34 = .ok (.iconst 0, 1) := by decide +kernel
theorem dX3_has_35 : decode cX3_has 35 = .ok (.ireturn, 1) := by decide +kernel
theorem dX3_takes_0 : decode cX3_takes 0 = .ok (.aload_n 0, 1) := by decide +kernel
theorem dX3_takes_1 : decode cX3_takes 1 = .ok (.invokevirtual 25, 3) := by decide +kernel
theorem dX3_takes_4 : decode cX3_takes 4 = .ok (.astore_n 2, 1) := by decide +kernel
theorem dX3_takes_5 : decode cX3_takes 5 = .ok (.aload_n 0, 1) := by decide +kernel
theorem dX3_takes_6 : decode cX3_takes 6 = .ok (.getfield 15, 3) := by decide +kernel
theorem dX3_takes_9 : decode cX3_takes 9 = .ok (.bipush 9, 2) := by decide +kernel
theorem dX3_takes_11 : decode cX3_takes 11 = .ok (.if_icmp .ge 30, 3) := by decide +kernel
theorem dX3_takes_14 : decode cX3_takes 14 = .ok (.aload_n 0, 1) := by decide +kernel
theorem dX3_takes_15 : decode cX3_takes 15 = .ok (.aload_n 1, 1) := by decide +kernel
theorem dX3_takes_16 : decode cX3_takes 16 = .ok (.invokevirtual 29, 3) := by decide +kernel
theorem dX3_takes_19 : decode cX3_takes 19 = .ok (.ifCond .ne 22, 3) := by decide +kernel
theorem dX3_takes_22 : decode cX3_takes 22 = .ok (.aload_n 2, 1) := by decide +kernel
theorem dX3_takes_23 : decode cX3_takes 23 = .ok (.ifnull 14, 3) := by decide +kernel
theorem dX3_takes_26 : decode cX3_takes 26 = .ok (.aload_n 2, 1) := by decide +kernel
theorem dX3_takes_27 : decode cX3_takes 27 = .ok (.getfield 33, 3) := by decide +kernel
theorem dX3_takes_30 : decode cX3_takes 30 = .ok (.aload_n 1, 1) := by decide +kernel
theorem dX3_takes_31 : decode cX3_takes 31 = .ok (.getfield 33, 3) := by decide +kernel
theorem dX3_takes_34 : decode cX3_takes 34 = .ok (.if_acmp .ne 7, 3) := by decide +kernel
theorem dX3_takes_37 : decode cX3_takes 37 = .ok (.iconst 1, 1) := by decide +kernel
theorem dX3_takes_38 : decode cX3_takes 38 = .ok (.goto 4, 3) := by decide +kernel
theorem dX3_takes_41 : decode cX3_takes 41 = .ok (.iconst 0, 1) := by decide +kernel
theorem dX3_takes_42 : decode cX3_takes 42 = .ok (.ireturn, 1) := by decide +kernel
theorem dX3_append_0 : decode cX3_append 0 = .ok (.aload_n 0, 1) := by decide +kernel
theorem dX3_append_1 : decode cX3_append 1 = .ok (.getfield 15, 3) := by decide +kernel
theorem dX3_append_4 : decode cX3_append 4 = .ok (.bipush 9, 2) := by decide +kernel
theorem dX3_append_6 : decode cX3_append 6 = .ok (.if_icmp .ge 36, 3) := by decide +kernel
theorem dX3_append_9 : decode cX3_append 9 = .ok (.aload_n 0, 1) := by decide +kernel
theorem dX3_append_10 : decode cX3_append 10 = .ok (.getfield 11, 3) := by decide +kernel
theorem dX3_append_13 : decode cX3_append 13 = .ok (.aload_n 0, 1) := by decide +kernel
theorem dX3_append_14 : decode cX3_append 14 = .ok (.getfield 15, 3) := by decide +kernel
theorem dX3_append_17 : decode cX3_append 17 = .ok (.aload_n 1, 1) := by decide +kernel
theorem dX3_append_18 : decode cX3_append 18 = .ok (.aastore, 1) := by decide +kernel
theorem dX3_append_19 : decode cX3_append 19 = .ok (.aload_n 0, 1) := by decide +kernel
theorem dX3_append_20 : decode cX3_append 20 = .ok (.dup, 1) := by decide +kernel
theorem dX3_append_21 : decode cX3_append 21 = .ok (.getfield 15, 3) := by decide +kernel
theorem dX3_append_24 : decode cX3_append 24 = .ok (.iconst 1, 1) := by decide +kernel
theorem dX3_append_25 : decode cX3_append 25 = .ok (.iadd, 1) := by decide +kernel
theorem dX3_append_26 : decode cX3_append 26 = .ok (.putfield 15, 3) := by decide +kernel
theorem dX3_append_29 : decode cX3_append 29 = .ok (.aload_n 0, 1) := by decide +kernel
theorem dX3_append_30 : decode cX3_append 30 = .ok (.dup, 1) := by decide +kernel
theorem dX3_append_31 : decode cX3_append 31 = .ok (.getfield 19, 3) := by decide +kernel
theorem dX3_append_34 : decode cX3_append 34 = .ok (.aload_n 1, 1) := by decide +kernel
theorem dX3_append_35 : decode cX3_append 35 = .ok (.getfield 37, 3) := by decide +kernel
theorem dX3_append_38 : decode cX3_append 38 = .ok (.iadd, 1) := by decide +kernel
theorem dX3_append_39 : decode cX3_append 39 = .ok (.putfield 19, 3) := by decide +kernel
theorem dX3_append_42 : decode cX3_append 42 = .ok (.return_, 1) := by decide +kernel
theorem dX3_belongTo_0 : decode cX3_belongTo 0 = .ok (.iconst 0, 1) := by decide +kernel
theorem dX3_belongTo_1 : decode cX3_belongTo 1 = .ok (.istore_n 2, 1) := by decide +kernel
theorem dX3_belongTo_2 : decode cX3_belongTo 2 = .ok (.iload_n 2, 1) := by decide +kernel
theorem dX3_belongTo_3 : decode cX3_belongTo 3 = .ok (.aload_n 0, 1) := by decide +kernel
theorem dX3_belongTo_4 : decode cX3_belongTo 4 = .ok (.getfield 15, 3) := by decide +kernel
theorem dX3_belongTo_7 : decode cX3_belongTo 7 = .ok (.if_icmp .ge 29, 3) := by decide +kernel
theorem dX3_belongTo_10 : decode cX3_belongTo 10 = .ok (.aload_n 0, 1) := by decide +kernel
theorem dX3_belongTo_11 : decode cX3_belongTo 11 = .ok (.getfield 11, 3) := by decide +kernel
theorem dX3_belongTo_14 : decode cX3_belongTo 14 = .ok (.iload_n 2, 1) := by decide +kernel
theorem dX3_belongTo_15 : decode cX3_belongTo 15 = .ok (.aaload, 1) := by decide +kernel
theorem dX3_belongTo_16 : decode cX3_belongTo 16 = .ok (.aload_n 1, 1) := by decide +kernel
theorem dX3_belongTo_17 : decode cX3_belongTo 17 = .ok (.putfield 40, 3) := by decide +kernel
theorem dX3_belongTo_20 : decode cX3_belongTo 20 = .ok (.aload_n 0, 1) := by decide +kernel
theorem dX3_belongTo_21 : decode cX3_belongTo 21 = .ok (.getfield 11, 3) := by decide +kernel
theorem dX3_belongTo_24 : decode cX3_belongTo 24 = .ok (.iload_n 2, 1) := by decide +kernel
theorem dX3_belongTo_25 : decode cX3_belongTo 25 = .ok (.aaload, 1) := by decide +kernel
theorem dX3_belongTo_26 : decode cX3_belongTo 26 = .ok (.aconst_null, 1) := by decide +kernel
theorem dX3_belongTo_27 : decode cX3_belongTo 27 = .ok (.putfield 33, 3) := by decide +kernel
theorem dX3_belongTo_30 : decode cX3_belongTo 30 = .ok (.iinc 2 1, 3) := by decide +kernel
theorem dX3_belongTo_33 : decode cX3_belongTo 33 = .ok (.goto (-31), 3) := by decide +kernel
theorem dX3_belongTo_36 : decode cX3_belongTo 36 = .ok (.return_, 1) := by decide +kernel
theorem dX3_lieAt_0 : decode cX3_lieAt 0 = .ok (.iconst 0, 1) := by decide +kernel
theorem dX3_lieAt_1 : decode cX3_lieAt 1 = .ok (.istore_n 2, 1) := by decide +kernel
theorem dX3_lieAt_2 : decode cX3_lieAt 2 = .ok (.iload_n 2, 1) := by decide +kernel
theorem dX3_lieAt_3 : decode cX3_lieAt 3 = .ok (.aload_n 0, 1) := by decide +kernel
theorem dX3_lieAt_4 : decode cX3_lieAt 4 = .ok (.getfield 15, 3) := by decide +kernel
theorem dX3_lieAt_7 : decode cX3_lieAt 7 = .ok (.if_icmp .ge 41, 3) := by decide +kernel
theorem dX3_lieAt_10 : decode cX3_lieAt 10 = .ok (.aload_n 0, 1) := by decide +kernel
theorem dX3_lieAt_11 : decode cX3_lieAt 11 = .ok (.getfield 11, 3) := by decide +kernel
theorem dX3_lieAt_14 : decode cX3_lieAt 14 = .ok (.iload_n 2, 1) := by decide +kernel
theorem dX3_lieAt_15 : decode cX3_lieAt 15 = .ok (.aaload, 1) := by decide +kernel
theorem dX3_lieAt_16 : decode cX3_lieAt 16 = .ok (.getfield 40, 3) := by decide +kernel
theorem dX3_lieAt_19 : decode cX3_lieAt 19 = .ok (.ifnull 23, 3) := by decide +kernel
theorem dX3_lieAt_22 : decode cX3_lieAt 22 = .ok (.aload_n 0, 1) := by decide +kernel
theorem dX3_lieAt_23 : decode cX3_lieAt 23 = .ok (.getfield 11, 3) := by decide +kernel
theorem dX3_lieAt_26 : decode cX3_lieAt 26 = .ok (.iload_n 2, 1) := by decide +kernel
theorem dX3_lieAt_27 : decode cX3_lieAt 27 = .ok (.aaload, 1) := by decide +kernel
theorem dX3_lieAt_28 : decode cX3_lieAt 28 = .ok (.aconst_null, 1) := by decide +kernel
theorem dX3_lieAt_29 : decode cX3_lieAt 29 = .ok (.putfield 40, 3) := by decide +kernel
theorem dX3_lieAt_32 : decode cX3_lieAt 32 = .ok (.aload_n 0, 1) := by decide +kernel
theorem dX3_lieAt_33 : decode cX3_lieAt 33 = .ok (.getfield 11, 3) := by decide +kernel
theorem dX3_lieAt_36 : decode cX3_lieAt 36 = .ok (.iload_n 2, 1) := by decide +kernel
theorem dX3_lieAt_37 : decode cX3_lieAt 37 = .ok (.aaload, 1) := by decide +kernel
theorem dX3_lieAt_38 : decode cX3_lieAt 38 = .ok (.aload_n 1, 1) := by decide +kernel
theorem dX3_lieAt_39 : decode cX3_lieAt 39 = .ok (.putfield 33, 3) := by decide +kernel
theorem dX3_lieAt_42 : decode cX3_lieAt 42 = .ok (.iinc 2 1, 3) := by decide +kernel
theorem dX3_lieAt_45 : decode cX3_lieAt 45 = .ok (.goto (-43), 3) := by decide +kernel
theorem dX3_lieAt_48 : decode cX3_lieAt 48 = .ok (.return_, 1) := by decide +kernel
theorem dX3_loseTrunks_0 : decode cX3_loseTrunks 0 = .ok (.iconst 0, 1) := by decide +kernel
theorem dX3_loseTrunks_1 : decode cX3_loseTrunks 1 = .ok (.istore_n 2, 1) := by decide +kernel
theorem dX3_loseTrunks_2 : decode cX3_loseTrunks 2 = .ok (.iconst 0, 1) := by decide +kernel
theorem dX3_loseTrunks_3 : decode cX3_loseTrunks 3 = .ok (.istore_n 3, 1) := by decide +kernel
theorem dX3_loseTrunks_4 : decode cX3_loseTrunks 4 = .ok (.iload_n 3, 1) := by decide +kernel
theorem dX3_loseTrunks_5 : decode cX3_loseTrunks 5 = .ok (.aload_n 0, 1) := by decide +kernel
theorem dX3_loseTrunks_6 : decode cX3_loseTrunks 6 = .ok (.getfield 15, 3) := by decide +kernel
theorem dX3_loseTrunks_9 : decode cX3_loseTrunks 9 = .ok (.if_icmp .ge 37, 3) := by decide +kernel
theorem dX3_loseTrunks_12 : decode cX3_loseTrunks 12 = .ok (.aload_n 0, 1) := by decide +kernel
theorem dX3_loseTrunks_13 : decode cX3_loseTrunks 13 = .ok (.getfield 11, 3) := by decide +kernel
theorem dX3_loseTrunks_16 : decode cX3_loseTrunks 16 = .ok (.iload_n 3, 1) := by decide +kernel
theorem dX3_loseTrunks_17 : decode cX3_loseTrunks 17 = .ok (.aaload, 1) := by decide +kernel
theorem dX3_loseTrunks_18 : decode cX3_loseTrunks 18 = .ok (.getfield 22, 3) := by decide +kernel
theorem dX3_loseTrunks_21 : decode cX3_loseTrunks 21 = .ok (.iconst 2, 1) := by decide +kernel
theorem dX3_loseTrunks_22 : decode cX3_loseTrunks 22 = .ok (.irem, 1) := by decide +kernel
theorem dX3_loseTrunks_23 : decode cX3_loseTrunks 23 = .ok (.iload_n 1, 1) := by decide +kernel
theorem dX3_loseTrunks_24 : decode cX3_loseTrunks 24 = .ok (.if_icmp .ne 16, 3) := by decide +kernel
theorem dX3_loseTrunks_27 : decode cX3_loseTrunks 27 = .ok (.aload_n 0, 1) := by decide +kernel
theorem dX3_loseTrunks_28 : decode cX3_loseTrunks 28 = .ok (.getfield 11, 3) := by decide +kernel
theorem dX3_loseTrunks_31 : decode cX3_loseTrunks 31 = .ok (.iload_n 3, 1) := by decide +kernel
theorem dX3_loseTrunks_32 : decode cX3_loseTrunks 32 = .ok (.aaload, 1) := by decide +kernel
theorem dX3_loseTrunks_33 : decode cX3_loseTrunks 33 = .ok (.aconst_null, 1) := by decide +kernel
theorem dX3_loseTrunks_34 : decode cX3_loseTrunks 34 = .ok (.putfield 40, 3) := by decide +kernel
theorem dX3_loseTrunks_37 : decode cX3_loseTrunks 37 = .ok (.iinc 2 1, 3) := by decide +kernel
theorem dX3_loseTrunks_40 : decode cX3_loseTrunks 40 = .ok (.iinc 3 1, 3) := by decide +kernel
theorem dX3_loseTrunks_43 : decode cX3_loseTrunks 43 = .ok (.goto (-39), 3) := by decide +kernel
theorem dX3_loseTrunks_46 : decode cX3_loseTrunks 46 = .ok (.iload_n 2, 1) := by decide +kernel
theorem dX3_loseTrunks_47 : decode cX3_loseTrunks 47 = .ok (.ireturn, 1) := by decide +kernel
theorem dX4_init_0 : decode cX4_init 0 = .ok (.aload_n 0, 1) := by decide +kernel
theorem dX4_init_1 : decode cX4_init 1 = .ok (.invokespecial 3, 3) := by decide +kernel
theorem dX4_init_4 : decode cX4_init 4 = .ok (.aload_n 0, 1) := by decide +kernel
theorem dX4_init_5 : decode cX4_init 5 = .ok (.iconst 0, 1) := by decide +kernel
theorem dX4_init_6 : decode cX4_init 6 = .ok (.putfield 9, 3) := by decide +kernel
theorem dX4_init_9 : decode cX4_init 9 = .ok (.aload_n 0, 1) := by decide +kernel
theorem dX4_init_10 : decode cX4_init 10 = .ok (.iconst 0, 1) := by decide +kernel
theorem dX4_init_11 : decode cX4_init 11 = .ok (.putfield 15, 3) := by decide +kernel
theorem dX4_init_14 : decode cX4_init 14 = .ok (.aload_n 0, 1) := by decide +kernel
theorem dX4_init_15 : decode cX4_init 15 = .ok (.iload_n 1, 1) := by decide +kernel
theorem dX4_init_16 : decode cX4_init 16 = .ok (.putfield 18, 3) := by decide +kernel
theorem dX4_init_19 : decode cX4_init 19 = .ok (.aload_n 0, 1) := by decide +kernel
theorem dX4_init_20 : decode cX4_init 20 = .ok (.aload_n 2, 1) := by decide +kernel
theorem dX4_init_21 : decode cX4_init 21 = .ok (.putfield 21, 3) := by decide +kernel
theorem dX4_init_24 : decode cX4_init 24 = .ok (.aload_n 0, 1) := by decide +kernel
theorem dX4_init_25 : decode cX4_init 25 = .ok (.iload_n 3, 1) := by decide +kernel
theorem dX4_init_26 : decode cX4_init 26 = .ok (.ldc 25, 2) := by decide +kernel
theorem dX4_init_28 : decode cX4_init 28 = .ok (.idiv, 1) := by decide +kernel
theorem dX4_init_29 : decode cX4_init 29 = .ok (.putfield 26, 3) := by decide +kernel
theorem dX4_init_32 : decode cX4_init 32 = .ok (.aload_n 0, 1) := by decide +kernel
theorem dX4_init_33 : decode cX4_init 33 = .ok (.iload_n 3, 1) := by decide +kernel
theorem dX4_init_34 : decode cX4_init 34 = .ok (.ldc 25, 2) := by decide +kernel
theorem dX4_init_36 : decode cX4_init 36 = .ok (.irem, 1) := by decide +kernel
theorem dX4_init_37 : decode cX4_init 37 = .ok (.sipush 1000, 3) := by decide +kernel
theorem dX4_init_40 : decode cX4_init 40 = .ok (.idiv, 1) := by decide +kernel
theorem dX4_init_41 : decode cX4_init 41 = .ok (.putfield 29, 3) := by decide +kernel
theorem dX4_init_44 : decode cX4_init 44 = .ok (.aload_n 0, 1) := by decide +kernel
theorem dX4_init_45 : decode cX4_init 45 = .ok (.iload_n 3, 1) := by decide +kernel
theorem dX4_init_46 : decode cX4_init 46 = .ok (.sipush 1000, 3) := by decide +kernel
theorem dX4_init_49 : decode cX4_init 49 = .ok (.irem, 1) := by decide +kernel
theorem dX4_init_50 : decode cX4_init 50 = .ok (.putfield 32, 3) := by decide +kernel
theorem dX4_init_53 : decode cX4_init 53 = .ok (.aload_n 0, 1) := by decide +kernel
theorem dX4_init_54 : decode cX4_init 54 = .ok (.iload 4, 2) := by decide +kernel
theorem dX4_init_56 : decode cX4_init 56 = .ok (.putfield 35, 3) := by decide +kernel
theorem dX4_init_59 : decode cX4_init 59 = .ok (.aload_n 0, 1) := by decide +kernel
theorem dX4_init_60 : decode cX4_init 60 = .ok (.iload 5, 2) := by decide +kernel
theorem dX4_init_62 : decode cX4_init 62 = .ok (.putfield 38, 3) := by decide +kernel
theorem dX4_init_65 : decode cX4_init 65 = .ok (.aload_n 0, 1) := by decide +kernel
theorem dX4_init_66 : decode cX4_init 66 = .ok (.iload 4, 2) := by decide +kernel
theorem dX4_init_68 : decode cX4_init 68 = .ok (.putfield 42, 3) := by decide +kernel
theorem dX4_init_71 : decode cX4_init 71 = .ok (.return_, 1) := by decide +kernel
theorem dX4_canBe_0 : decode cX4_canBe 0 = .ok (.iload_n 0, 1) := by decide +kernel
theorem dX4_canBe_1 : decode cX4_canBe 1 = .ok (.ifCond .lt 62, 3) := by decide +kernel
theorem dX4_canBe_4 : decode cX4_canBe 4 = .ok (.iload_n 0, 1) := by decide +kernel
theorem dX4_canBe_5 : decode cX4_canBe 5 = .ok (.ldc 25, 2) := by decide +kernel
theorem dX4_canBe_7 : decode cX4_canBe 7 = .ok (.idiv, 1) := by decide +kernel
theorem dX4_canBe_8 : decode cX4_canBe 8 = .ok (.iconst 1, 1) := by decide +kernel
theorem dX4_canBe_9 : decode cX4_canBe 9 = .ok (.bipush 20, 2) := by decide +kernel
theorem dX4_canBe_11 : decode cX4_canBe 11 = .ok (.invokestatic 45, 3) := by decide +kernel
theorem dX4_canBe_14 : decode cX4_canBe 14 = .ok (.ifCond .eq 49, 3) := by decide +kernel
theorem dX4_canBe_17 : decode cX4_canBe 17 = .ok (.iload_n 0, 1) := by decide +kernel
theorem dX4_canBe_18 : decode cX4_canBe 18 = .ok (.ldc 25, 2) := by decide +kernel
theorem dX4_canBe_20 : decode cX4_canBe 20 = .ok (.irem, 1) := by decide +kernel
theorem dX4_canBe_21 : decode cX4_canBe 21 = .ok (.sipush 1000, 3) := by decide +kernel
theorem dX4_canBe_24 : decode cX4_canBe 24 = .ok (.idiv, 1) := by decide +kernel
theorem dX4_canBe_25 : decode cX4_canBe 25 = .ok (.iconst 1, 1) := by decide +kernel
theorem dX4_canBe_26 : decode cX4_canBe 26 = .ok (.bipush 60, 2) := by decide +kernel
theorem dX4_canBe_28 : decode cX4_canBe 28 = .ok (.invokestatic 45, 3) := by decide +kernel
theorem dX4_canBe_31 : decode cX4_canBe 31 = .ok (.ifCond .eq 32, 3) := by decide +kernel
theorem dX4_canBe_34 : decode cX4_canBe 34 = .ok (.iload_n 0, 1) := by decide +kernel
theorem dX4_canBe_35 : decode cX4_canBe 35 = .ok (.sipush 1000, 3) := by decide +kernel
theorem dX4_canBe_38 : decode cX4_canBe 38 = .ok (.irem, 1) := by decide +kernel
theorem dX4_canBe_39 : decode cX4_canBe 39 = .ok (.iconst 0, 1) := by decide +kernel
theorem dX4_canBe_40 : decode cX4_canBe 40 = .ok (.bipush 50, 2) := by decide +kernel
theorem dX4_canBe_42 : decode cX4_canBe 42 = .ok (.invokestatic 45, 3) := by decide +kernel
theorem dX4_canBe_45 : decode cX4_canBe 45 = .ok (.ifCond .eq 18, 3) := by decide +kernel
theorem dX4_canBe_48 : decode cX4_canBe 48 = .ok (.iload_n 1, 1) := by decide +kernel
theorem dX4_canBe_49 : decode cX4_canBe 49 = .ok (.iconst 0, 1) := by decide +kernel
theorem dX4_canBe_50 : decode cX4_canBe 50 = .ok (.sipush 1000, 3) := by decide +kernel
theorem dX4_canBe_53 : decode cX4_canBe 53 = .ok (.invokestatic 45, 3) := by decide +kernel
theorem dX4_canBe_56 : decode cX4_canBe 56 = .ok (.ifCond .eq 7, 3) := by decide +kernel
theorem dX4_canBe_59 : decode cX4_canBe 59 = .ok (.iconst 1, 1) := by decide +kernel
theorem dX4_canBe_60 : decode cX4_canBe 60 = .ok (.goto 4, 3) := by decide +kernel
theorem dX4_canBe_63 : decode cX4_canBe 63 = .ok (.iconst 0, 1) := by decide +kernel
theorem dX4_canBe_64 : decode cX4_canBe 64 = .ok (.ireturn, 1) := by decide +kernel
theorem dX4_storms_0 : decode cX4_storms 0 = .ok (.iload_n 1, 1) := by decide +kernel
theorem dX4_storms_1 : decode cX4_storms 1 = .ok (.aload_n 0, 1) := by decide +kernel
theorem dX4_storms_2 : decode cX4_storms 2 = .ok (.getfield 9, 3) := by decide +kernel
theorem dX4_storms_5 : decode cX4_storms 5 = .ok (.if_icmp .lt 15, 3) := by decide +kernel
theorem dX4_storms_8 : decode cX4_storms 8 = .ok (.iload_n 1, 1) := by decide +kernel
theorem dX4_storms_9 : decode cX4_storms 9 = .ok (.aload_n 0, 1) := by decide +kernel
theorem dX4_storms_10 : decode cX4_storms 10 = .ok (.getfield 15, 3) := by decide +kernel
theorem dX4_storms_13 : decode cX4_storms 13 = .ok (.if_icmp .ge 7, 3) := by decide +kernel
theorem dX4_storms_16 : decode cX4_storms 16 = .ok (.iconst 1, 1) := by decide +kernel
theorem dX4_storms_17 : decode cX4_storms 17 = .ok (.goto 4, 3) := by decide +kernel
theorem dX4_storms_20 : decode cX4_storms 20 = .ok (.iconst 0, 1) := by decide +kernel
theorem dX4_storms_21 : decode cX4_storms 21 = .ok (.ireturn, 1) := by decide +kernel
theorem dX4_fillPond_0 : decode cX4_fillPond 0 = .ok (.aload_n 0, 1) := by decide +kernel
theorem dX4_fillPond_1 : decode cX4_fillPond 1 = .ok (.aload_n 0, 1) := by decide +kernel
theorem dX4_fillPond_2 : decode cX4_fillPond 2 = .ok (.getfield 35, 3) := by decide +kernel
theorem dX4_fillPond_5 : decode cX4_fillPond 5 = .ok (.aload_n 0, 1) := by decide +kernel
theorem dX4_fillPond_6 : decode cX4_fillPond 6 = .ok (.getfield 42, 3) := by decide +kernel
theorem dX4_fillPond_9 : decode cX4_fillPond 9 = .ok (.aload_n 0, 1) := by decide +kernel
theorem dX4_fillPond_10 : decode cX4_fillPond 10 = .ok (.getfield 32, 3) := by decide +kernel
theorem dX4_fillPond_13 : decode cX4_fillPond 13 = .ok (.iadd, 1) := by decide +kernel
theorem dX4_fillPond_14 : decode cX4_fillPond 14 = .ok (.invokestatic 49, 3) := by decide +kernel
theorem dX4_fillPond_17 : decode cX4_fillPond 17 = .ok (.putfield 42, 3) := by decide +kernel
theorem dX4_fillPond_20 : decode cX4_fillPond 20 = .ok (.return_, 1) := by decide +kernel
theorem dX4_hoursDownTo_0 : decode cX4_hoursDownTo 0 = .ok (.iconst 0, 1) := by decide +kernel
theorem dX4_hoursDownTo_1 : decode cX4_hoursDownTo 1 = .ok (.istore_n 2, 1) := by decide +kernel
theorem dX4_hoursDownTo_2 : decode cX4_hoursDownTo 2 = .ok (.aload_n 0, 1) := by decide +kernel
theorem dX4_hoursDownTo_3 : decode cX4_hoursDownTo 3 = .ok (.astore_n 3, 1) := by decide +kernel
theorem dX4_hoursDownTo_4 : decode cX4_hoursDownTo 4 = .ok (.aload_n 3, 1) := by decide +kernel
theorem dX4_hoursDownTo_5 : decode cX4_hoursDownTo 5 = .ok (.ifnull 25, 3) := by decide +kernel
theorem dX4_hoursDownTo_8 : decode cX4_hoursDownTo 8 = .ok (.aload_n 3, 1) := by decide +kernel
theorem dX4_hoursDownTo_9 : decode cX4_hoursDownTo 9 = .ok (.aload_n 1, 1) := by decide +kernel
theorem dX4_hoursDownTo_10 : decode cX4_hoursDownTo 10 = .ok (.if_acmp .ne 5, 3) := by decide +kernel
theorem dX4_hoursDownTo_13 : decode cX4_hoursDownTo 13 = .ok (.iload_n 2, 1) := by decide +kernel
theorem dX4_hoursDownTo_14 : decode cX4_hoursDownTo 14 = .ok (.ireturn, 1) := by decide +kernel
theorem dX4_hoursDownTo_15 : decode cX4_hoursDownTo 15 = .ok (.iload_n 2, 1) := by decide +kernel
theorem dX4_hoursDownTo_16 : decode cX4_hoursDownTo 16 = .ok (.aload_n 3, 1) := by decide +kernel
theorem dX4_hoursDownTo_17 : decode cX4_hoursDownTo 17 = .ok (.getfield 26, 3) := by decide +kernel
theorem dX4_hoursDownTo_20 : decode cX4_hoursDownTo 20 = .ok (.iadd, 1) := by decide +kernel
theorem dX4_hoursDownTo_21 : decode cX4_hoursDownTo 21 = .ok (.istore_n 2, 1) := by decide +kernel
theorem dX4_hoursDownTo_22 : decode cX4_hoursDownTo 22 = .ok (.aload_n 3, 1) := by decide +kernel
theorem dX4_hoursDownTo_23 : decode cX4_hoursDownTo 23 = .ok (.getfield 21, 3) := by decide +kernel
theorem dX4_hoursDownTo_26 : decode cX4_hoursDownTo 26 = .ok (.astore_n 3, 1) := by decide +kernel
theorem dX4_hoursDownTo_27 : decode cX4_hoursDownTo 27 = .ok (.goto (-23), 3) := by decide +kernel
theorem dX4_hoursDownTo_30 : decode cX4_hoursDownTo 30 = .ok (.iconst (-1), 1) := by decide +kernel
theorem dX4_hoursDownTo_31 : decode cX4_hoursDownTo 31 = .ok (.ireturn, 1) := by decide +kernel
theorem dX5_init_0 : decode cX5_init 0 = .ok (.aload_n 0, 1) := by decide +kernel
theorem dX5_init_1 : decode cX5_init 1 = .ok (.invokespecial 3, 3) := by decide +kernel
theorem dX5_init_4 : decode cX5_init 4 = .ok (.aload_n 0, 1) := by decide +kernel
theorem dX5_init_5 : decode cX5_init 5 = .ok (.iconst 0, 1) := by decide +kernel
theorem dX5_init_6 : decode cX5_init 6 = .ok (.putfield 9, 3) := by decide +kernel
theorem dX5_init_9 : decode cX5_init 9 = .ok (.iconst 0, 1) := by decide +kernel
theorem dX5_init_10 : decode cX5_init 10 = .ok (.iload_n 1, 1) := by decide +kernel
theorem dX5_init_11 : decode cX5_init 11 = .ok (.invokestatic 15, 3) := by decide +kernel
theorem dX5_init_14 : decode cX5_init 14 = .ok (.istore_n 2, 1) := by decide +kernel
theorem dX5_init_15 : decode cX5_init 15 = .ok (.aload_n 0, 1) := by decide +kernel
theorem dX5_init_16 : decode cX5_init 16 = .ok (.iload_n 2, 1) := by decide +kernel
theorem dX5_init_17 : decode cX5_init 17 = .ok (.newarray .int, 2) := by decide +kernel
theorem dX5_init_19 : decode cX5_init 19 = .ok (.putfield 21, 3) := by decide +kernel
theorem dX5_init_22 : decode cX5_init 22 = .ok (.aload_n 0, 1) := by decide +kernel
theorem dX5_init_23 : decode cX5_init 23 = .ok (.iload_n 2, 1) := by decide +kernel
theorem dX5_init_24 : decode cX5_init 24 = .ok (.newarray .int, 2) := by decide +kernel
theorem dX5_init_26 : decode cX5_init 26 = .ok (.putfield 25, 3) := by decide +kernel
theorem dX5_init_29 : decode cX5_init 29 = .ok (.aload_n 0, 1) := by decide +kernel
theorem dX5_init_30 : decode cX5_init 30 = .ok (.iload_n 2, 1) := by decide +kernel
theorem dX5_init_31 : decode cX5_init 31 = .ok (.newarray .int, 2) := by decide +kernel
theorem dX5_init_33 : decode cX5_init 33 = .ok (.putfield 28, 3) := by decide +kernel
theorem dX5_init_36 : decode cX5_init 36 = .ok (.return_, 1) := by decide +kernel
theorem dX5_tell_0 : decode cX5_tell 0 = .ok (.aload_n 0, 1) := by decide +kernel
theorem dX5_tell_1 : decode cX5_tell 1 = .ok (.getfield 9, 3) := by decide +kernel
theorem dX5_tell_4 : decode cX5_tell 4 = .ok (.aload_n 0, 1) := by decide +kernel
theorem dX5_tell_5 : decode cX5_tell 5 = .ok (.getfield 21, 3) := by decide +kernel
theorem dX5_tell_8 : decode cX5_tell 8 = .ok (.arraylength, 1) := by decide +kernel
theorem dX5_tell_9 : decode cX5_tell 9 = .ok (.if_icmp .lt 5, 3) := by decide +kernel
theorem dX5_tell_12 : decode cX5_tell 12 = .ok (.iconst 0, 1) := by decide +kernel
theorem dX5_tell_13 : decode cX5_tell 13 = .ok (.ireturn, 1) := by decide +kernel
theorem dX5_tell_14 : decode cX5_tell 14 = .ok (.aload_n 0, 1) := by decide +kernel
theorem dX5_tell_15 : decode cX5_tell 15 = .ok (.getfield 21, 3) := by decide +kernel
theorem dX5_tell_18 : decode cX5_tell 18 = .ok (.aload_n 0, 1) := by decide +kernel
theorem dX5_tell_19 : decode cX5_tell 19 = .ok (.getfield 9, 3) := by decide +kernel
theorem dX5_tell_22 : decode cX5_tell 22 = .ok (.iload_n 1, 1) := by decide +kernel
theorem dX5_tell_23 : decode cX5_tell 23 = .ok (.iastore, 1) := by decide +kernel
theorem dX5_tell_24 : decode cX5_tell 24 = .ok (.aload_n 0, 1) := by decide +kernel
theorem dX5_tell_25 : decode cX5_tell 25 = .ok (.getfield 25, 3) := by decide +kernel
theorem dX5_tell_28 : decode cX5_tell 28 = .ok (.aload_n 0, 1) := by decide +kernel
theorem dX5_tell_29 : decode cX5_tell 29 = .ok (.getfield 9, 3) := by decide +kernel
theorem dX5_tell_32 : decode cX5_tell 32 = .ok (.iload_n 2, 1) := by decide +kernel
theorem dX5_tell_33 : decode cX5_tell 33 = .ok (.iastore, 1) := by decide +kernel
theorem dX5_tell_34 : decode cX5_tell 34 = .ok (.aload_n 0, 1) := by decide +kernel
theorem dX5_tell_35 : decode cX5_tell 35 = .ok (.getfield 28, 3) := by decide +kernel
theorem dX5_tell_38 : decode cX5_tell 38 = .ok (.aload_n 0, 1) := by decide +kernel
theorem dX5_tell_39 : decode cX5_tell 39 = .ok (.getfield 9, 3) := by decide +kernel
theorem dX5_tell_42 : decode cX5_tell 42 = .ok (.iload_n 3, 1) := by decide +kernel
theorem dX5_tell_43 : decode cX5_tell 43 = .ok (.iastore, 1) := by decide +kernel
theorem dX5_tell_44 : decode cX5_tell 44 = .ok (.aload_n 0, 1) := by decide +kernel
theorem dX5_tell_45 : decode cX5_tell 45 = .ok (.dup, 1) := by decide +kernel
theorem dX5_tell_46 : decode cX5_tell 46 = .ok (.getfield 9, 3) := by decide +kernel
theorem dX5_tell_49 : decode cX5_tell 49 = .ok (.iconst 1, 1) := by decide +kernel
theorem dX5_tell_50 : decode cX5_tell 50 = .ok (.iadd, 1) := by decide +kernel
theorem dX5_tell_51 : decode cX5_tell 51 = .ok (.putfield 9, 3) := by decide +kernel
theorem dX5_tell_54 : decode cX5_tell 54 = .ok (.iconst 1, 1) := by decide +kernel
theorem dX5_tell_55 : decode cX5_tell 55 = .ok (.ireturn, 1) := by decide +kernel
theorem dX5_inForce_0 : decode cX5_inForce 0 = .ok (.iconst 0, 1) := by decide +kernel
theorem dX5_inForce_1 : decode cX5_inForce 1 = .ok (.istore_n 3, 1) := by decide +kernel
theorem dX5_inForce_2 : decode cX5_inForce 2 = .ok (.iconst (-1), 1) := by decide +kernel
theorem dX5_inForce_3 : decode cX5_inForce 3 = .ok (.istore 4, 2) := by decide +kernel
theorem dX5_inForce_5 : decode cX5_inForce 5 = .ok (.iconst 0, 1) := by decide +kernel
theorem dX5_inForce_6 : decode cX5_inForce 6 = .ok (.istore 5, 2) := by decide +kernel
theorem dX5_inForce_8 : decode cX5_inForce 8 = .ok (.iload 5, 2) := by decide +kernel
theorem dX5_inForce_10 : decode cX5_inForce 10 = .ok (.aload_n 0, 1) := by decide +kernel
theorem dX5_inForce_11 : decode cX5_inForce 11 = .ok (.getfield 9, 3) := by decide +kernel
theorem dX5_inForce_14 : decode cX5_inForce 14 = .ok (.if_icmp .ge 60, 3) := by decide +kernel
theorem dX5_inForce_17 : decode cX5_inForce 17 = .ok (.aload_n 0, 1) := by decide +kernel
theorem dX5_inForce_18 : decode cX5_inForce 18 = .ok (.getfield 21, 3) := by decide +kernel
theorem dX5_inForce_21 : decode cX5_inForce 21 = .ok (.iload 5, 2) := by decide +kernel
theorem dX5_inForce_23 : decode cX5_inForce 23 = .ok (.iaload, 1) := by decide +kernel
theorem dX5_inForce_24 : decode cX5_inForce 24 = .ok (.iload_n 1, 1) := by decide +kernel
theorem dX5_inForce_25 : decode cX5_inForce 25 = .ok (.if_icmp .ne 43, 3) := by decide +kernel
theorem dX5_inForce_28 : decode cX5_inForce 28 = .ok (.aload_n 0, 1) := by decide +kernel
theorem dX5_inForce_29 : decode cX5_inForce 29 = .ok (.getfield 25, 3) := by decide +kernel
theorem dX5_inForce_32 : decode cX5_inForce 32 = .ok (.iload 5, 2) := by decide +kernel
theorem dX5_inForce_34 : decode cX5_inForce 34 = .ok (.iaload, 1) := by decide +kernel
theorem dX5_inForce_35 : decode cX5_inForce 35 = .ok (.iload_n 2, 1) := by decide +kernel
theorem dX5_inForce_36 : decode cX5_inForce 36 = .ok (.if_icmp .gt 32, 3) := by decide +kernel
theorem dX5_inForce_39 : decode cX5_inForce 39 = .ok (.aload_n 0, 1) := by decide +kernel
theorem dX5_inForce_40 : decode cX5_inForce 40 = .ok (.getfield 25, 3) := by decide +kernel
theorem dX5_inForce_43 : decode cX5_inForce 43 = .ok (.iload 5, 2) := by decide +kernel
theorem dX5_inForce_45 : decode cX5_inForce 45 = .ok (.iaload, 1) := by decide +kernel
theorem dX5_inForce_46 : decode cX5_inForce 46 = .ok (.iload 4, 2) := by decide +kernel
theorem dX5_inForce_48 : decode cX5_inForce 48 = .ok (.if_icmp .lt 20, 3) := by decide +kernel
theorem dX5_inForce_51 : decode cX5_inForce 51 = .ok (.aload_n 0, 1) := by decide +kernel
theorem dX5_inForce_52 : decode cX5_inForce 52 = .ok (.getfield 25, 3) := by decide +kernel
theorem dX5_inForce_55 : decode cX5_inForce 55 = .ok (.iload 5, 2) := by decide +kernel
theorem dX5_inForce_57 : decode cX5_inForce 57 = .ok (.iaload, 1) := by decide +kernel
theorem dX5_inForce_58 : decode cX5_inForce 58 = .ok (.istore 4, 2) := by decide +kernel
theorem dX5_inForce_60 : decode cX5_inForce 60 = .ok (.aload_n 0, 1) := by decide +kernel
theorem dX5_inForce_61 : decode cX5_inForce 61 = .ok (.getfield 28, 3) := by decide +kernel
theorem dX5_inForce_64 : decode cX5_inForce 64 = .ok (.iload 5, 2) := by decide +kernel
theorem dX5_inForce_66 : decode cX5_inForce 66 = .ok (.iaload, 1) := by decide +kernel
theorem dX5_inForce_67 : decode cX5_inForce 67 = .ok (.istore_n 3, 1) := by decide +kernel
theorem dX5_inForce_68 : decode cX5_inForce 68 = .ok (.iinc 5 1, 3) := by decide +kernel
theorem dX5_inForce_71 : decode cX5_inForce 71 = .ok (.goto (-63), 3) := by decide +kernel
theorem dX5_inForce_74 : decode cX5_inForce 74 = .ok (.iload_n 3, 1) := by decide +kernel
theorem dX5_inForce_75 : decode cX5_inForce 75 = .ok (.ireturn, 1) := by decide +kernel
theorem dX6_init_0 : decode cX6_init 0 = .ok (.aload_n 0, 1) := by decide +kernel
theorem dX6_init_1 : decode cX6_init 1 = .ok (.invokespecial 3, 3) := by decide +kernel
theorem dX6_init_4 : decode cX6_init 4 = .ok (.aload_n 0, 1) := by decide +kernel
theorem dX6_init_5 : decode cX6_init 5 = .ok (.aconst_null, 1) := by decide +kernel
theorem dX6_init_6 : decode cX6_init 6 = .ok (.putfield 9, 3) := by decide +kernel
theorem dX6_init_9 : decode cX6_init 9 = .ok (.aload_n 0, 1) := by decide +kernel
theorem dX6_init_10 : decode cX6_init 10 = .ok (.iconst (-1), 1) := by decide +kernel
theorem dX6_init_11 : decode cX6_init 11 = .ok (.putfield 15, 3) := by decide +kernel
theorem dX6_init_14 : decode cX6_init 14 = .ok (.aload_n 0, 1) := by decide +kernel
theorem dX6_init_15 : decode cX6_init 15 = .ok (.iload_n 1, 1) := by decide +kernel
theorem dX6_init_16 : decode cX6_init 16 = .ok (.putfield 19, 3) := by decide +kernel
theorem dX6_init_19 : decode cX6_init 19 = .ok (.aload_n 0, 1) := by decide +kernel
theorem dX6_init_20 : decode cX6_init 20 = .ok (.iload_n 2, 1) := by decide +kernel
theorem dX6_init_21 : decode cX6_init 21 = .ok (.putfield 22, 3) := by decide +kernel
theorem dX6_init_24 : decode cX6_init 24 = .ok (.aload_n 0, 1) := by decide +kernel
theorem dX6_init_25 : decode cX6_init 25 = .ok (.iload_n 3, 1) := by decide +kernel
theorem dX6_init_26 : decode cX6_init 26 = .ok (.bipush 100, 2) := by decide +kernel
theorem dX6_init_28 : decode cX6_init 28 = .ok (.idiv, 1) := by decide +kernel
theorem dX6_init_29 : decode cX6_init 29 = .ok (.putfield 25, 3) := by decide +kernel
theorem dX6_init_32 : decode cX6_init 32 = .ok (.aload_n 0, 1) := by decide +kernel
theorem dX6_init_33 : decode cX6_init 33 = .ok (.iload_n 3, 1) := by decide +kernel
theorem dX6_init_34 : decode cX6_init 34 = .ok (.bipush 10, 2) := by decide +kernel
theorem dX6_init_36 : decode cX6_init 36 = .ok (.idiv, 1) := by decide +kernel
theorem dX6_init_37 : decode cX6_init 37 = .ok (.bipush 10, 2) := by decide +kernel
theorem dX6_init_39 : decode cX6_init 39 = .ok (.irem, 1) := by decide +kernel
theorem dX6_init_40 : decode cX6_init 40 = .ok (.putfield 28, 3) := by decide +kernel
theorem dX6_init_43 : decode cX6_init 43 = .ok (.aload_n 0, 1) := by decide +kernel
theorem dX6_init_44 : decode cX6_init 44 = .ok (.iload_n 3, 1) := by decide +kernel
theorem dX6_init_45 : decode cX6_init 45 = .ok (.bipush 10, 2) := by decide +kernel
theorem dX6_init_47 : decode cX6_init 47 = .ok (.irem, 1) := by decide +kernel
theorem dX6_init_48 : decode cX6_init 48 = .ok (.putfield 31, 3) := by decide +kernel
theorem dX6_init_51 : decode cX6_init 51 = .ok (.aload_n 0, 1) := by decide +kernel
theorem dX6_init_52 : decode cX6_init 52 = .ok (.aload 4, 2) := by decide +kernel
theorem dX6_init_54 : decode cX6_init 54 = .ok (.putfield 34, 3) := by decide +kernel
theorem dX6_init_57 : decode cX6_init 57 = .ok (.return_, 1) := by decide +kernel
theorem dX6_canBe_0 : decode cX6_canBe 0 = .ok (.iload_n 0, 1) := by decide +kernel
theorem dX6_canBe_1 : decode cX6_canBe 1 = .ok (.ifCond .lt 45, 3) := by decide +kernel
theorem dX6_canBe_4 : decode cX6_canBe 4 = .ok (.iload_n 0, 1) := by decide +kernel
theorem dX6_canBe_5 : decode cX6_canBe 5 = .ok (.bipush 100, 2) := by decide +kernel
theorem dX6_canBe_7 : decode cX6_canBe 7 = .ok (.idiv, 1) := by decide +kernel
theorem dX6_canBe_8 : decode cX6_canBe 8 = .ok (.invokestatic 38, 3) := by decide +kernel
theorem dX6_canBe_11 : decode cX6_canBe 11 = .ok (.ifCond .eq 35, 3) := by decide +kernel
theorem dX6_canBe_14 : decode cX6_canBe 14 = .ok (.iload_n 0, 1) := by decide +kernel
theorem dX6_canBe_15 : decode cX6_canBe 15 = .ok (.bipush 10, 2) := by decide +kernel
theorem dX6_canBe_17 : decode cX6_canBe 17 = .ok (.idiv, 1) := by decide +kernel
theorem dX6_canBe_18 : decode cX6_canBe 18 = .ok (.bipush 10, 2) := by decide +kernel
theorem dX6_canBe_20 : decode cX6_canBe 20 = .ok (.irem, 1) := by decide +kernel
theorem dX6_canBe_21 : decode cX6_canBe 21 = .ok (.iconst 0, 1) := by decide +kernel
theorem dX6_canBe_22 : decode cX6_canBe 22 = .ok (.iconst 3, 1) := by decide +kernel
theorem dX6_canBe_23 : decode cX6_canBe 23 = .ok (.invokestatic 42, 3) := by decide +kernel
theorem dX6_canBe_26 : decode cX6_canBe 26 = .ok (.ifCond .eq 20, 3) := by decide +kernel
theorem dX6_canBe_29 : decode cX6_canBe 29 = .ok (.iload_n 0, 1) := by decide +kernel
theorem dX6_canBe_30 : decode cX6_canBe 30 = .ok (.bipush 10, 2) := by decide +kernel
theorem dX6_canBe_32 : decode cX6_canBe 32 = .ok (.irem, 1) := by decide +kernel
theorem dX6_canBe_33 : decode cX6_canBe 33 = .ok (.iconst 1, 1) := by decide +kernel
theorem dX6_canBe_34 : decode cX6_canBe 34 = .ok (.bipush 9, 2) := by decide +kernel
theorem dX6_canBe_36 : decode cX6_canBe 36 = .ok (.invokestatic 42, 3) := by decide +kernel
theorem dX6_canBe_39 : decode cX6_canBe 39 = .ok (.ifCond .eq 7, 3) := by decide +kernel
theorem dX6_canBe_42 : decode cX6_canBe 42 = .ok (.iconst 1, 1) := by decide +kernel
theorem dX6_canBe_43 : decode cX6_canBe 43 = .ok (.goto 4, 3) := by decide +kernel
theorem dX6_canBe_46 : decode cX6_canBe 46 = .ok (.iconst 0, 1) := by decide +kernel
theorem dX6_canBe_47 : decode cX6_canBe 47 = .ok (.ireturn, 1) := by decide +kernel
theorem dX6_state_0 : decode cX6_state 0 = .ok (.aload_n 0, 1) := by decide +kernel
theorem dX6_state_1 : decode cX6_state 1 = .ok (.getfield 34, 3) := by decide +kernel
theorem dX6_state_4 : decode cX6_state 4 = .ok (.ifnull 5, 3) := by decide +kernel
theorem dX6_state_7 : decode cX6_state 7 = .ok (.iconst 0, 1) := by decide +kernel
theorem dX6_state_8 : decode cX6_state 8 = .ok (.ireturn, 1) := by decide +kernel
theorem dX6_state_9 : decode cX6_state 9 = .ok (.aload_n 0, 1) := by decide +kernel
theorem dX6_state_10 : decode cX6_state 10 = .ok (.getfield 9, 3) := by decide +kernel
theorem dX6_state_13 : decode cX6_state 13 = .ok (.ifnull 5, 3) := by decide +kernel
theorem dX6_state_16 : decode cX6_state 16 = .ok (.iconst 1, 1) := by decide +kernel
theorem dX6_state_17 : decode cX6_state 17 = .ok (.ireturn, 1) := by decide +kernel
theorem dX6_state_18 : decode cX6_state 18 = .ok (.aload_n 0, 1) := by decide +kernel
theorem dX6_state_19 : decode cX6_state 19 = .ok (.getfield 15, 3) := by decide +kernel
theorem dX6_state_22 : decode cX6_state 22 = .ok (.iconst (-1), 1) := by decide +kernel
theorem dX6_state_23 : decode cX6_state 23 = .ok (.if_icmp .eq 7, 3) := by decide +kernel
theorem dX6_state_26 : decode cX6_state 26 = .ok (.iconst 2, 1) := by decide +kernel
theorem dX6_state_27 : decode cX6_state 27 = .ok (.goto 4, 3) := by decide +kernel
theorem dX6_state_30 : decode cX6_state 30 = .ok (.iconst 3, 1) := by decide +kernel
theorem dX6_state_31 : decode cX6_state 31 = .ok (.ireturn, 1) := by decide +kernel
theorem dX7_init_0 : decode cX7_init 0 = .ok (.aload_n 0, 1) := by decide +kernel
theorem dX7_init_1 : decode cX7_init 1 = .ok (.invokespecial 1, 3) := by decide +kernel
theorem dX7_init_4 : decode cX7_init 4 = .ok (.aload_n 0, 1) := by decide +kernel
theorem dX7_init_5 : decode cX7_init 5 = .ok (.bipush 12, 2) := by decide +kernel
theorem dX7_init_7 : decode cX7_init 7 = .ok (.anewarray 9, 3) := by decide +kernel
theorem dX7_init_10 : decode cX7_init 10 = .ok (.putfield 11, 3) := by decide +kernel
theorem dX7_init_13 : decode cX7_init 13 = .ok (.aload_n 0, 1) := by decide +kernel
theorem dX7_init_14 : decode cX7_init 14 = .ok (.iconst 0, 1) := by decide +kernel
theorem dX7_init_15 : decode cX7_init 15 = .ok (.putfield 15, 3) := by decide +kernel
theorem dX7_init_18 : decode cX7_init 18 = .ok (.aload_n 0, 1) := by decide +kernel
theorem dX7_init_19 : decode cX7_init 19 = .ok (.bipush 120, 2) := by decide +kernel
theorem dX7_init_21 : decode cX7_init 21 = .ok (.anewarray 19, 3) := by decide +kernel
theorem dX7_init_24 : decode cX7_init 24 = .ok (.putfield 21, 3) := by decide +kernel
theorem dX7_init_27 : decode cX7_init 27 = .ok (.aload_n 0, 1) := by decide +kernel
theorem dX7_init_28 : decode cX7_init 28 = .ok (.iconst 0, 1) := by decide +kernel
theorem dX7_init_29 : decode cX7_init 29 = .ok (.putfield 25, 3) := by decide +kernel
theorem dX7_init_32 : decode cX7_init 32 = .ok (.aload_n 0, 1) := by decide +kernel
theorem dX7_init_33 : decode cX7_init 33 = .ok (.bipush 60, 2) := by decide +kernel
theorem dX7_init_35 : decode cX7_init 35 = .ok (.anewarray 28, 3) := by decide +kernel
theorem dX7_init_38 : decode cX7_init 38 = .ok (.putfield 30, 3) := by decide +kernel
theorem dX7_init_41 : decode cX7_init 41 = .ok (.aload_n 0, 1) := by decide +kernel
theorem dX7_init_42 : decode cX7_init 42 = .ok (.iconst 0, 1) := by decide +kernel
theorem dX7_init_43 : decode cX7_init 43 = .ok (.putfield 34, 3) := by decide +kernel
theorem dX7_init_46 : decode cX7_init 46 = .ok (.aload_n 0, 1) := by decide +kernel
theorem dX7_init_47 : decode cX7_init 47 = .ok (.bipush 10, 2) := by decide +kernel
theorem dX7_init_49 : decode cX7_init 49 = .ok (.anewarray 37, 3) := by decide +kernel
theorem dX7_init_52 : decode cX7_init 52 = .ok (.putfield 39, 3) := by decide +kernel
theorem dX7_init_55 : decode cX7_init 55 = .ok (.aload_n 0, 1) := by decide +kernel
theorem dX7_init_56 : decode cX7_init 56 = .ok (.iconst 0, 1) := by decide +kernel
theorem dX7_init_57 : decode cX7_init 57 = .ok (.putfield 43, 3) := by decide +kernel
theorem dX7_init_60 : decode cX7_init 60 = .ok (.aload_n 0, 1) := by decide +kernel
theorem dX7_init_61 : decode cX7_init 61 = .ok (.new 46, 3) := by decide +kernel
theorem dX7_init_64 : decode cX7_init 64 = .ok (.dup, 1) := by decide +kernel
theorem dX7_init_65 : decode cX7_init 65 = .ok (.invokespecial 48, 3) := by decide +kernel
theorem dX7_init_68 : decode cX7_init 68 = .ok (.putfield 49, 3) := by decide +kernel
theorem dX7_init_71 : decode cX7_init 71 = .ok (.aload_n 0, 1) := by decide +kernel
theorem dX7_init_72 : decode cX7_init 72 = .ok (.new 53, 3) := by decide +kernel
theorem dX7_init_75 : decode cX7_init 75 = .ok (.dup, 1) := by decide +kernel
theorem dX7_init_76 : decode cX7_init 76 = .ok (.bipush 30, 2) := by decide +kernel
theorem dX7_init_78 : decode cX7_init 78 = .ok (.invokespecial 55, 3) := by decide +kernel
theorem dX7_init_81 : decode cX7_init 81 = .ok (.putfield 58, 3) := by decide +kernel
theorem dX7_init_84 : decode cX7_init 84 = .ok (.aload_n 0, 1) := by decide +kernel
theorem dX7_init_85 : decode cX7_init 85 = .ok (.new 53, 3) := by decide +kernel
theorem dX7_init_88 : decode cX7_init 88 = .ok (.dup, 1) := by decide +kernel
theorem dX7_init_89 : decode cX7_init 89 = .ok (.bipush 100, 2) := by decide +kernel
theorem dX7_init_91 : decode cX7_init 91 = .ok (.invokespecial 55, 3) := by decide +kernel
theorem dX7_init_94 : decode cX7_init 94 = .ok (.putfield 62, 3) := by decide +kernel
theorem dX7_init_97 : decode cX7_init 97 = .ok (.aload_n 0, 1) := by decide +kernel
theorem dX7_init_98 : decode cX7_init 98 = .ok (.bipush 8, 2) := by decide +kernel
theorem dX7_init_100 : decode cX7_init 100 = .ok (.newarray .int, 2) := by decide +kernel
theorem dX7_init_102 : decode cX7_init 102 = .ok (.putfield 65, 3) := by decide +kernel
theorem dX7_init_105 : decode cX7_init 105 = .ok (.aload_n 0, 1) := by decide +kernel
theorem dX7_init_106 : decode cX7_init 106 = .ok (.bipush 8, 2) := by decide +kernel
theorem dX7_init_108 : decode cX7_init 108 = .ok (.newarray .int, 2) := by decide +kernel
theorem dX7_init_110 : decode cX7_init 110 = .ok (.putfield 69, 3) := by decide +kernel
theorem dX7_init_113 : decode cX7_init 113 = .ok (.aload_n 0, 1) := by decide +kernel
theorem dX7_init_114 : decode cX7_init 114 = .ok (.new 72, 3) := by decide +kernel
theorem dX7_init_117 : decode cX7_init 117 = .ok (.dup, 1) := by decide +kernel
theorem dX7_init_118 : decode cX7_init 118 = .ok (.invokespecial 74, 3) := by decide +kernel
theorem dX7_init_121 : decode cX7_init 121 = .ok (.putfield 75, 3) := by decide +kernel
theorem dX7_init_124 : decode cX7_init 124 = .ok (.aload_n 0, 1) := by decide +kernel
theorem dX7_init_125 : decode cX7_init 125 = .ok (.iconst 0, 1) := by decide +kernel
theorem dX7_init_126 : decode cX7_init 126 = .ok (.putfield 79, 3) := by decide +kernel
theorem dX7_init_129 : decode cX7_init 129 = .ok (.aload_n 0, 1) := by decide +kernel
theorem dX7_init_130 : decode cX7_init 130 = .ok (.iconst 0, 1) := by decide +kernel
theorem dX7_init_131 : decode cX7_init 131 = .ok (.putfield 82, 3) := by decide +kernel
theorem dX7_init_134 : decode cX7_init 134 = .ok (.aload_n 0, 1) := by decide +kernel
theorem dX7_init_135 : decode cX7_init 135 = .ok (.iconst 0, 1) := by decide +kernel
theorem dX7_init_136 : decode cX7_init 136 = .ok (.putfield 85, 3) := by decide +kernel
theorem dX7_init_139 : decode cX7_init 139 = .ok (.aload_n 0, 1) := by decide +kernel
theorem dX7_init_140 : decode cX7_init 140 = .ok (.iconst 0, 1) := by decide +kernel
theorem dX7_init_141 : decode cX7_init 141 = .ok (.putfield 88, 3) := by decide +kernel
theorem dX7_init_144 : decode cX7_init 144 = .ok (.iconst 0, 1) := by decide +kernel
theorem dX7_init_145 : decode cX7_init 145 = .ok (.istore_n 1, 1) := by decide +kernel
theorem dX7_init_146 : decode cX7_init 146 = .ok (.iload_n 1, 1) := by decide +kernel
theorem dX7_init_147 : decode cX7_init 147 = .ok (.bipush 8, 2) := by decide +kernel
theorem dX7_init_149 : decode cX7_init 149 = .ok (.if_icmp .ge 16, 3) := by decide +kernel
theorem dX7_init_152 : decode cX7_init 152 = .ok (.aload_n 0, 1) := by decide +kernel
theorem dX7_init_153 : decode cX7_init 153 = .ok (.getfield 65, 3) := by decide +kernel
theorem dX7_init_156 : decode cX7_init 156 = .ok (.iload_n 1, 1) := by decide +kernel
theorem dX7_init_157 : decode cX7_init 157 = .ok (.iconst 5, 1) := by decide +kernel
theorem dX7_init_158 : decode cX7_init 158 = .ok (.iastore, 1) := by decide +kernel
theorem dX7_init_159 : decode cX7_init 159 = .ok (.iinc 1 1, 3) := by decide +kernel
theorem dX7_init_162 : decode cX7_init 162 = .ok (.goto (-16), 3) := by decide +kernel
theorem dX7_init_165 : decode cX7_init 165 = .ok (.return_, 1) := by decide +kernel
theorem dX7_station_0 : decode cX7_station 0 = .ok (.aload_n 0, 1) := by decide +kernel
theorem dX7_station_1 : decode cX7_station 1 = .ok (.getfield 15, 3) := by decide +kernel
theorem dX7_station_4 : decode cX7_station 4 = .ok (.bipush 12, 2) := by decide +kernel
theorem dX7_station_6 : decode cX7_station 6 = .ok (.if_icmp .lt 5, 3) := by decide +kernel
theorem dX7_station_9 : decode cX7_station 9 = .ok (.iconst (-1), 1) := by decide +kernel
theorem dX7_station_10 : decode cX7_station 10 = .ok (.ireturn, 1) := by decide +kernel
theorem dX7_station_11 : decode cX7_station 11 = .ok (.aload_n 0, 1) := by decide +kernel
theorem dX7_station_12 : decode cX7_station 12 = .ok (.getfield 15, 3) := by decide +kernel
theorem dX7_station_15 : decode cX7_station 15 = .ok (.ifCond .ne 20, 3) := by decide +kernel
theorem dX7_station_18 : decode cX7_station 18 = .ok (.new 9, 3) := by decide +kernel
theorem dX7_station_21 : decode cX7_station 21 = .ok (.dup, 1) := by decide +kernel
theorem dX7_station_22 : decode cX7_station 22 = .ok (.iconst 0, 1) := by decide +kernel
theorem dX7_station_23 : decode cX7_station 23 = .ok (.aconst_null, 1) := by decide +kernel
theorem dX7_station_24 : decode cX7_station 24 = .ok (.iconst 0, 1) := by decide +kernel
theorem dX7_station_25 : decode cX7_station 25 = .ok (.iconst 0, 1) := by decide +kernel
theorem dX7_station_26 : decode cX7_station 26 = .ok (.iconst 1, 1) := by decide +kernel
theorem dX7_station_27 : decode cX7_station 27 = .ok (.invokespecial 91, 3) := by decide +kernel
theorem dX7_station_30 : decode cX7_station 30 = .ok (.astore 5, 2) := by decide +kernel
theorem dX7_station_32 : decode cX7_station 32 = .ok (.goto 44, 3) := by decide +kernel
theorem dX7_station_35 : decode cX7_station 35 = .ok (.aload_n 0, 1) := by decide +kernel
theorem dX7_station_36 : decode cX7_station 36 = .ok (.iload_n 1, 1) := by decide +kernel
theorem dX7_station_37 : decode cX7_station 37 = .ok (.invokevirtual 94, 3) := by decide +kernel
theorem dX7_station_40 : decode cX7_station 40 = .ok (.astore 6, 2) := by decide +kernel
theorem dX7_station_42 : decode cX7_station 42 = .ok (.aload 6, 2) := by decide +kernel
theorem dX7_station_44 : decode cX7_station 44 = .ok (.ifnull 11, 3) := by decide +kernel
theorem dX7_station_47 : decode cX7_station 47 = .ok (.iload_n 2, 1) := by decide +kernel
theorem dX7_station_48 : decode cX7_station 48 = .ok (.iload_n 3, 1) := by decide +kernel
theorem dX7_station_49 : decode cX7_station 49 = .ok (.invokestatic 98, 3) := by decide +kernel
theorem dX7_station_52 : decode cX7_station 52 = .ok (.ifCond .ne 5, 3) := by decide +kernel
theorem dX7_station_55 : decode cX7_station 55 = .ok (.iconst (-1), 1) := by decide +kernel
theorem dX7_station_56 : decode cX7_station 56 = .ok (.ireturn, 1) := by decide +kernel
theorem dX7_station_57 : decode cX7_station 57 = .ok (.new 9, 3) := by decide +kernel
theorem dX7_station_60 : decode cX7_station 60 = .ok (.dup, 1) := by decide +kernel
theorem dX7_station_61 : decode cX7_station 61 = .ok (.aload_n 0, 1) := by decide +kernel
theorem dX7_station_62 : decode cX7_station 62 = .ok (.getfield 15, 3) := by decide +kernel
theorem dX7_station_65 : decode cX7_station 65 = .ok (.aload 6, 2) := by decide +kernel
theorem dX7_station_67 : decode cX7_station 67 = .ok (.iload_n 2, 1) := by decide +kernel
theorem dX7_station_68 : decode cX7_station 68 = .ok (.iload_n 3, 1) := by decide +kernel
theorem dX7_station_69 : decode cX7_station 69 = .ok (.iload 4, 2) := by decide +kernel
theorem dX7_station_71 : decode cX7_station 71 = .ok (.invokespecial 91, 3) := by decide +kernel
theorem dX7_station_74 : decode cX7_station 74 = .ok (.astore 5, 2) := by decide +kernel
theorem dX7_station_76 : decode cX7_station 76 = .ok (.aload_n 0, 1) := by decide +kernel
theorem dX7_station_77 : decode cX7_station 77 = .ok (.getfield 11, 3) := by decide +kernel
theorem dX7_station_80 : decode cX7_station 80 = .ok (.aload_n 0, 1) := by decide +kernel
theorem dX7_station_81 : decode cX7_station 81 = .ok (.getfield 15, 3) := by decide +kernel
theorem dX7_station_84 : decode cX7_station 84 = .ok (.aload 5, 2) := by decide +kernel
theorem dX7_station_86 : decode cX7_station 86 = .ok (.aastore, 1) := by decide +kernel
theorem dX7_station_87 : decode cX7_station 87 = .ok (.aload_n 0, 1) := by decide +kernel
theorem dX7_station_88 : decode cX7_station 88 = .ok (.dup, 1) := by decide +kernel
theorem dX7_station_89 : decode cX7_station 89 = .ok (.getfield 15, 3) := by decide +kernel
theorem dX7_station_92 : decode cX7_station 92 = .ok (.iconst 1, 1) := by decide +kernel
theorem dX7_station_93 : decode cX7_station 93 = .ok (.iadd, 1) := by decide +kernel
theorem dX7_station_94 : decode cX7_station 94 = .ok (.putfield 15, 3) := by decide +kernel
theorem dX7_station_97 : decode cX7_station 97 = .ok (.aload 5, 2) := by decide +kernel
theorem dX7_station_99 : decode cX7_station 99 = .ok (.getfield 102, 3) := by decide +kernel
theorem dX7_station_102 : decode cX7_station 102 = .ok (.ireturn, 1) := by decide +kernel
theorem dX7_trunk_0 : decode cX7_trunk 0 = .ok (.aload_n 0, 1) := by decide +kernel
theorem dX7_trunk_1 : decode cX7_trunk 1 = .ok (.iload_n 3, 1) := by decide +kernel
theorem dX7_trunk_2 : decode cX7_trunk 2 = .ok (.invokevirtual 94, 3) := by decide +kernel
theorem dX7_trunk_5 : decode cX7_trunk 5 = .ok (.astore 4, 2) := by decide +kernel
theorem dX7_trunk_7 : decode cX7_trunk 7 = .ok (.aload 4, 2) := by decide +kernel
theorem dX7_trunk_9 : decode cX7_trunk 9 = .ok (.ifnull 19, 3) := by decide +kernel
theorem dX7_trunk_12 : decode cX7_trunk 12 = .ok (.aload_n 0, 1) := by decide +kernel
theorem dX7_trunk_13 : decode cX7_trunk 13 = .ok (.getfield 25, 3) := by decide +kernel
theorem dX7_trunk_16 : decode cX7_trunk 16 = .ok (.bipush 120, 2) := by decide +kernel
theorem dX7_trunk_18 : decode cX7_trunk 18 = .ok (.if_icmp .ge 10, 3) := by decide +kernel
theorem dX7_trunk_21 : decode cX7_trunk 21 = .ok (.iload_n 2, 1) := by decide +kernel
theorem dX7_trunk_22 : decode cX7_trunk 22 = .ok (.invokestatic 105, 3) := by decide +kernel
theorem dX7_trunk_25 : decode cX7_trunk 25 = .ok (.ifCond .ne 5, 3) := by decide +kernel
theorem dX7_trunk_28 : decode cX7_trunk 28 = .ok (.iconst (-1), 1) := by decide +kernel
theorem dX7_trunk_29 : decode cX7_trunk 29 = .ok (.ireturn, 1) := by decide +kernel
theorem dX7_trunk_30 : decode cX7_trunk 30 = .ok (.iload_n 1, 1) := by decide +kernel
theorem dX7_trunk_31 : decode cX7_trunk 31 = .ok (.iconst 1, 1) := by decide +kernel
theorem dX7_trunk_32 : decode cX7_trunk 32 = .ok (.ldc 108, 2) := by decide +kernel
theorem dX7_trunk_34 : decode cX7_trunk 34 = .ok (.invokestatic 109, 3) := by decide +kernel
theorem dX7_trunk_37 : decode cX7_trunk 37 = .ok (.ifCond .eq 12, 3) := by decide +kernel
theorem dX7_trunk_40 : decode cX7_trunk 40 = .ok (.aload_n 0, 1) := by decide +kernel
theorem dX7_trunk_41 : decode cX7_trunk 41 = .ok (.iload_n 1, 1) := by decide +kernel
theorem dX7_trunk_42 : decode cX7_trunk 42 = .ok (.invokevirtual 113, 3) := by decide +kernel
theorem dX7_trunk_45 : decode cX7_trunk 45 = .ok (.iconst (-1), 1) := by decide +kernel
theorem dX7_trunk_46 : decode cX7_trunk 46 = .ok (.if_icmp .eq 5, 3) := by decide +kernel
theorem dX7_trunk_49 : decode cX7_trunk 49 = .ok (.iconst (-1), 1) := by decide +kernel
theorem dX7_trunk_50 : decode cX7_trunk 50 = .ok (.ireturn, 1) := by decide +kernel
theorem dX7_trunk_51 : decode cX7_trunk 51 = .ok (.new 19, 3) := by decide +kernel
theorem dX7_trunk_54 : decode cX7_trunk 54 = .ok (.dup, 1) := by decide +kernel
theorem dX7_trunk_55 : decode cX7_trunk 55 = .ok (.aload_n 0, 1) := by decide +kernel
theorem dX7_trunk_56 : decode cX7_trunk 56 = .ok (.getfield 25, 3) := by decide +kernel
theorem dX7_trunk_59 : decode cX7_trunk 59 = .ok (.iload_n 1, 1) := by decide +kernel
theorem dX7_trunk_60 : decode cX7_trunk 60 = .ok (.iload_n 2, 1) := by decide +kernel
theorem dX7_trunk_61 : decode cX7_trunk 61 = .ok (.aload 4, 2) := by decide +kernel
theorem dX7_trunk_63 : decode cX7_trunk 63 = .ok (.invokespecial 117, 3) := by decide +kernel
theorem dX7_trunk_66 : decode cX7_trunk 66 = .ok (.astore 5, 2) := by decide +kernel
theorem dX7_trunk_68 : decode cX7_trunk 68 = .ok (.aload_n 0, 1) := by decide +kernel
theorem dX7_trunk_69 : decode cX7_trunk 69 = .ok (.getfield 21, 3) := by decide +kernel
theorem dX7_trunk_72 : decode cX7_trunk 72 = .ok (.aload_n 0, 1) := by decide +kernel
theorem dX7_trunk_73 : decode cX7_trunk 73 = .ok (.getfield 25, 3) := by decide +kernel
theorem dX7_trunk_76 : decode cX7_trunk 76 = .ok (.aload 5, 2) := by decide +kernel
theorem dX7_trunk_78 : decode cX7_trunk 78 = .ok (.aastore, 1) := by decide +kernel
theorem dX7_trunk_79 : decode cX7_trunk 79 = .ok (.aload_n 0, 1) := by decide +kernel
theorem dX7_trunk_80 : decode cX7_trunk 80 = .ok (.dup, 1) := by decide +kernel
theorem dX7_trunk_81 : decode cX7_trunk 81 = .ok (.getfield 25, 3) := by decide +kernel
theorem dX7_trunk_84 : decode cX7_trunk 84 = .ok (.iconst 1, 1) := by decide +kernel
theorem dX7_trunk_85 : decode cX7_trunk 85 = .ok (.iadd, 1) := by decide +kernel
theorem dX7_trunk_86 : decode cX7_trunk 86 = .ok (.putfield 25, 3) := by decide +kernel
theorem dX7_trunk_89 : decode cX7_trunk 89 = .ok (.aload 5, 2) := by decide +kernel
theorem dX7_trunk_91 : decode cX7_trunk 91 = .ok (.getfield 120, 3) := by decide +kernel
theorem dX7_trunk_94 : decode cX7_trunk 94 = .ok (.ireturn, 1) := by decide +kernel
theorem dX7_find_0 : decode cX7_find 0 = .ok (.iconst 0, 1) := by decide +kernel
theorem dX7_find_1 : decode cX7_find 1 = .ok (.istore_n 2, 1) := by decide +kernel
theorem dX7_find_2 : decode cX7_find 2 = .ok (.iload_n 2, 1) := by decide +kernel
theorem dX7_find_3 : decode cX7_find 3 = .ok (.aload_n 0, 1) := by decide +kernel
theorem dX7_find_4 : decode cX7_find 4 = .ok (.getfield 25, 3) := by decide +kernel
theorem dX7_find_7 : decode cX7_find 7 = .ok (.if_icmp .ge 24, 3) := by decide +kernel
theorem dX7_find_10 : decode cX7_find 10 = .ok (.aload_n 0, 1) := by decide +kernel
theorem dX7_find_11 : decode cX7_find 11 = .ok (.getfield 21, 3) := by decide +kernel
theorem dX7_find_14 : decode cX7_find 14 = .ok (.iload_n 2, 1) := by decide +kernel
theorem dX7_find_15 : decode cX7_find 15 = .ok (.aaload, 1) := by decide +kernel
theorem dX7_find_16 : decode cX7_find 16 = .ok (.getfield 121, 3) := by decide +kernel
theorem dX7_find_19 : decode cX7_find 19 = .ok (.iload_n 1, 1) := by decide +kernel
theorem dX7_find_20 : decode cX7_find 20 = .ok (.if_icmp .ne 5, 3) := by decide +kernel
theorem dX7_find_23 : decode cX7_find 23 = .ok (.iload_n 2, 1) := by decide +kernel
theorem dX7_find_24 : decode cX7_find 24 = .ok (.ireturn, 1) := by decide +kernel
theorem dX7_find_25 : decode cX7_find 25 = .ok (.iinc 2 1, 3) := by decide +kernel
theorem dX7_find_28 : decode cX7_find 28 = .ok (.goto (-26), 3) := by decide +kernel
theorem dX7_find_31 : decode cX7_find 31 = .ok (.iconst (-1), 1) := by decide +kernel
theorem dX7_find_32 : decode cX7_find 32 = .ok (.ireturn, 1) := by decide +kernel
theorem dX7_put_0 : decode cX7_put 0 = .ok (.aload_n 0, 1) := by decide +kernel
theorem dX7_put_1 : decode cX7_put 1 = .ok (.iload_n 1, 1) := by decide +kernel
theorem dX7_put_2 : decode cX7_put 2 = .ok (.invokevirtual 124, 3) := by decide +kernel
theorem dX7_put_5 : decode cX7_put 5 = .ok (.astore_n 2, 1) := by decide +kernel
theorem dX7_put_6 : decode cX7_put 6 = .ok (.aload_n 2, 1) := by decide +kernel
theorem dX7_put_7 : decode cX7_put 7 = .ok (.ifnull 21, 3) := by decide +kernel
theorem dX7_put_10 : decode cX7_put 10 = .ok (.aload_n 2, 1) := by decide +kernel
theorem dX7_put_11 : decode cX7_put 11 = .ok (.getfield 128, 3) := by decide +kernel
theorem dX7_put_14 : decode cX7_put 14 = .ok (.ifnull 14, 3) := by decide +kernel
theorem dX7_put_17 : decode cX7_put 17 = .ok (.aload_n 0, 1) := by decide +kernel
theorem dX7_put_18 : decode cX7_put 18 = .ok (.getfield 49, 3) := by decide +kernel
theorem dX7_put_21 : decode cX7_put 21 = .ok (.aload_n 2, 1) := by decide +kernel
theorem dX7_put_22 : decode cX7_put 22 = .ok (.invokevirtual 132, 3) := by decide +kernel
theorem dX7_put_25 : decode cX7_put 25 = .ok (.ifCond .ne 5, 3) := by decide +kernel
theorem dX7_put_28 : decode cX7_put 28 = .ok (.iconst (-1), 1) := by decide +kernel
theorem dX7_put_29 : decode cX7_put 29 = .ok (.ireturn, 1) := by decide +kernel
theorem dX7_put_30 : decode cX7_put 30 = .ok (.aload_n 0, 1) := by decide +kernel
theorem dX7_put_31 : decode cX7_put 31 = .ok (.getfield 49, 3) := by decide +kernel
theorem dX7_put_34 : decode cX7_put 34 = .ok (.aload_n 2, 1) := by decide +kernel
theorem dX7_put_35 : decode cX7_put 35 = .ok (.invokevirtual 136, 3) := by decide +kernel
theorem dX7_put_38 : decode cX7_put 38 = .ok (.aload_n 0, 1) := by decide +kernel
theorem dX7_put_39 : decode cX7_put 39 = .ok (.getfield 49, 3) := by decide +kernel
theorem dX7_put_42 : decode cX7_put 42 = .ok (.getfield 140, 3) := by decide +kernel
theorem dX7_put_45 : decode cX7_put 45 = .ok (.ireturn, 1) := by decide +kernel
theorem dX7_bind_0 : decode cX7_bind 0 = .ok (.aload_n 0, 1) := by decide +kernel
theorem dX7_bind_1 : decode cX7_bind 1 = .ok (.getfield 49, 3) := by decide +kernel
theorem dX7_bind_4 : decode cX7_bind 4 = .ok (.invokevirtual 143, 3) := by decide +kernel
theorem dX7_bind_7 : decode cX7_bind 7 = .ok (.astore_n 1, 1) := by decide +kernel
theorem dX7_bind_8 : decode cX7_bind 8 = .ok (.aload_n 1, 1) := by decide +kernel
theorem dX7_bind_9 : decode cX7_bind 9 = .ok (.ifnull 12, 3) := by decide +kernel
theorem dX7_bind_12 : decode cX7_bind 12 = .ok (.aload_n 0, 1) := by decide +kernel
theorem dX7_bind_13 : decode cX7_bind 13 = .ok (.getfield 34, 3) := by decide +kernel
theorem dX7_bind_16 : decode cX7_bind 16 = .ok (.bipush 60, 2) := by decide +kernel
theorem dX7_bind_18 : decode cX7_bind 18 = .ok (.if_icmp .lt 5, 3) := by decide +kernel
theorem dX7_bind_21 : decode cX7_bind 21 = .ok (.iconst (-1), 1) := by decide +kernel
theorem dX7_bind_22 : decode cX7_bind 22 = .ok (.ireturn, 1) := by decide +kernel
theorem dX7_bind_23 : decode cX7_bind 23 = .ok (.aload_n 0, 1) := by decide +kernel
theorem dX7_bind_24 : decode cX7_bind 24 = .ok (.aload_n 1, 1) := by decide +kernel
theorem dX7_bind_25 : decode cX7_bind 25 = .ok (.getfield 128, 3) := by decide +kernel
theorem dX7_bind_28 : decode cX7_bind 28 = .ok (.invokevirtual 147, 3) := by decide +kernel
theorem dX7_bind_31 : decode cX7_bind 31 = .ok (.astore_n 2, 1) := by decide +kernel
theorem dX7_bind_32 : decode cX7_bind 32 = .ok (.aload_n 2, 1) := by decide +kernel
theorem dX7_bind_33 : decode cX7_bind 33 = .ok (.aload_n 0, 1) := by decide +kernel
theorem dX7_bind_34 : decode cX7_bind 34 = .ok (.getfield 49, 3) := by decide +kernel
theorem dX7_bind_37 : decode cX7_bind 37 = .ok (.invokevirtual 151, 3) := by decide +kernel
theorem dX7_bind_40 : decode cX7_bind 40 = .ok (.aload_n 0, 1) := by decide +kernel
theorem dX7_bind_41 : decode cX7_bind 41 = .ok (.new 46, 3) := by decide +kernel
theorem dX7_bind_44 : decode cX7_bind 44 = .ok (.dup, 1) := by decide +kernel
theorem dX7_bind_45 : decode cX7_bind 45 = .ok (.invokespecial 48, 3) := by decide +kernel
theorem dX7_bind_48 : decode cX7_bind 48 = .ok (.putfield 49, 3) := by decide +kernel
theorem dX7_bind_51 : decode cX7_bind 51 = .ok (.aload_n 2, 1) := by decide +kernel
theorem dX7_bind_52 : decode cX7_bind 52 = .ok (.getfield 154, 3) := by decide +kernel
theorem dX7_bind_55 : decode cX7_bind 55 = .ok (.ireturn, 1) := by decide +kernel
theorem dX7_join_0 : decode cX7_join 0 = .ok (.aload_n 0, 1) := by decide +kernel
theorem dX7_join_1 : decode cX7_join 1 = .ok (.iload_n 1, 1) := by decide +kernel
theorem dX7_join_2 : decode cX7_join 2 = .ok (.invokevirtual 155, 3) := by decide +kernel
theorem dX7_join_5 : decode cX7_join 5 = .ok (.astore_n 3, 1) := by decide +kernel
theorem dX7_join_6 : decode cX7_join 6 = .ok (.aload_n 0, 1) := by decide +kernel
theorem dX7_join_7 : decode cX7_join 7 = .ok (.iload_n 2, 1) := by decide +kernel
theorem dX7_join_8 : decode cX7_join 8 = .ok (.invokevirtual 155, 3) := by decide +kernel
theorem dX7_join_11 : decode cX7_join 11 = .ok (.astore 4, 2) := by decide +kernel
theorem dX7_join_13 : decode cX7_join 13 = .ok (.aload_n 3, 1) := by decide +kernel
theorem dX7_join_14 : decode cX7_join 14 = .ok (.ifnull 14, 3) := by decide +kernel
theorem dX7_join_17 : decode cX7_join 17 = .ok (.aload 4, 2) := by decide +kernel
theorem dX7_join_19 : decode cX7_join 19 = .ok (.ifnull 9, 3) := by decide +kernel
theorem dX7_join_22 : decode cX7_join 22 = .ok (.aload_n 3, 1) := by decide +kernel
theorem dX7_join_23 : decode cX7_join 23 = .ok (.aload 4, 2) := by decide +kernel
theorem dX7_join_25 : decode cX7_join 25 = .ok (.if_acmp .ne 5, 3) := by decide +kernel
theorem dX7_join_28 : decode cX7_join 28 = .ok (.iconst 0, 1) := by decide +kernel
theorem dX7_join_29 : decode cX7_join 29 = .ok (.ireturn, 1) := by decide +kernel
theorem dX7_join_30 : decode cX7_join 30 = .ok (.aload_n 3, 1) := by decide +kernel
theorem dX7_join_31 : decode cX7_join 31 = .ok (.getfield 159, 3) := by decide +kernel
theorem dX7_join_34 : decode cX7_join 34 = .ok (.aload 4, 2) := by decide +kernel
theorem dX7_join_36 : decode cX7_join 36 = .ok (.getfield 159, 3) := by decide +kernel
theorem dX7_join_39 : decode cX7_join 39 = .ok (.if_acmp .ne 18, 3) := by decide +kernel
theorem dX7_join_42 : decode cX7_join 42 = .ok (.aload_n 3, 1) := by decide +kernel
theorem dX7_join_43 : decode cX7_join 43 = .ok (.getfield 160, 3) := by decide +kernel
theorem dX7_join_46 : decode cX7_join 46 = .ok (.aload 4, 2) := by decide +kernel
theorem dX7_join_48 : decode cX7_join 48 = .ok (.getfield 160, 3) := by decide +kernel
theorem dX7_join_51 : decode cX7_join 51 = .ok (.iadd, 1) := by decide +kernel
theorem dX7_join_52 : decode cX7_join 52 = .ok (.bipush 8, 2) := by decide +kernel
theorem dX7_join_54 : decode cX7_join 54 = .ok (.if_icmp .le 5, 3) := by decide +kernel
theorem dX7_join_57 : decode cX7_join 57 = .ok (.iconst 0, 1) := by decide +kernel
theorem dX7_join_58 : decode cX7_join 58 = .ok (.ireturn, 1) := by decide +kernel
theorem dX7_join_59 : decode cX7_join 59 = .ok (.aload 4, 2) := by decide +kernel
theorem dX7_join_61 : decode cX7_join 61 = .ok (.iconst 0, 1) := by decide +kernel
theorem dX7_join_62 : decode cX7_join 62 = .ok (.aload_n 3, 1) := by decide +kernel
theorem dX7_join_63 : decode cX7_join 63 = .ok (.invokevirtual 161, 3) := by decide +kernel
theorem dX7_join_66 : decode cX7_join 66 = .ok (.aload 4, 2) := by decide +kernel
theorem dX7_join_68 : decode cX7_join 68 = .ok (.invokevirtual 165, 3) := by decide +kernel
theorem dX7_join_71 : decode cX7_join 71 = .ok (.iconst 1, 1) := by decide +kernel
theorem dX7_join_72 : decode cX7_join 72 = .ok (.ireturn, 1) := by decide +kernel
theorem dX7_part_0 : decode cX7_part 0 = .ok (.aload_n 0, 1) := by decide +kernel
theorem dX7_part_1 : decode cX7_part 1 = .ok (.iload_n 1, 1) := by decide +kernel
theorem dX7_part_2 : decode cX7_part 2 = .ok (.invokevirtual 155, 3) := by decide +kernel
theorem dX7_part_5 : decode cX7_part 5 = .ok (.astore_n 3, 1) := by decide +kernel
theorem dX7_part_6 : decode cX7_part 6 = .ok (.aload_n 3, 1) := by decide +kernel
theorem dX7_part_7 : decode cX7_part 7 = .ok (.ifnull 25, 3) := by decide +kernel
theorem dX7_part_10 : decode cX7_part 10 = .ok (.iload_n 2, 1) := by decide +kernel
theorem dX7_part_11 : decode cX7_part 11 = .ok (.iconst 1, 1) := by decide +kernel
theorem dX7_part_12 : decode cX7_part 12 = .ok (.if_icmp .lt 20, 3) := by decide +kernel
theorem dX7_part_15 : decode cX7_part 15 = .ok (.aload_n 3, 1) := by decide +kernel
theorem dX7_part_16 : decode cX7_part 16 = .ok (.getfield 160, 3) := by decide +kernel
theorem dX7_part_19 : decode cX7_part 19 = .ok (.iload_n 2, 1) := by decide +kernel
theorem dX7_part_20 : decode cX7_part 20 = .ok (.if_icmp .le 12, 3) := by decide +kernel
theorem dX7_part_23 : decode cX7_part 23 = .ok (.aload_n 0, 1) := by decide +kernel
theorem dX7_part_24 : decode cX7_part 24 = .ok (.getfield 34, 3) := by decide +kernel
theorem dX7_part_27 : decode cX7_part 27 = .ok (.bipush 60, 2) := by decide +kernel
theorem dX7_part_29 : decode cX7_part 29 = .ok (.if_icmp .lt 5, 3) := by decide +kernel
theorem dX7_part_32 : decode cX7_part 32 = .ok (.iconst (-1), 1) := by decide +kernel
theorem dX7_part_33 : decode cX7_part 33 = .ok (.ireturn, 1) := by decide +kernel
theorem dX7_part_34 : decode cX7_part 34 = .ok (.aload_n 0, 1) := by decide +kernel
theorem dX7_part_35 : decode cX7_part 35 = .ok (.aload_n 3, 1) := by decide +kernel
theorem dX7_part_36 : decode cX7_part 36 = .ok (.getfield 159, 3) := by decide +kernel
theorem dX7_part_39 : decode cX7_part 39 = .ok (.invokevirtual 147, 3) := by decide +kernel
theorem dX7_part_42 : decode cX7_part 42 = .ok (.astore 4, 2) := by decide +kernel
theorem dX7_part_44 : decode cX7_part 44 = .ok (.aload_n 3, 1) := by decide +kernel
theorem dX7_part_45 : decode cX7_part 45 = .ok (.aload_n 3, 1) := by decide +kernel
theorem dX7_part_46 : decode cX7_part 46 = .ok (.getfield 160, 3) := by decide +kernel
theorem dX7_part_49 : decode cX7_part 49 = .ok (.iload_n 2, 1) := by decide +kernel
theorem dX7_part_50 : decode cX7_part 50 = .ok (.isub, 1) := by decide +kernel
theorem dX7_part_51 : decode cX7_part 51 = .ok (.aload 4, 2) := by decide +kernel
theorem dX7_part_53 : decode cX7_part 53 = .ok (.invokevirtual 161, 3) := by decide +kernel
theorem dX7_part_56 : decode cX7_part 56 = .ok (.aload 4, 2) := by decide +kernel
theorem dX7_part_58 : decode cX7_part 58 = .ok (.getfield 154, 3) := by decide +kernel
theorem dX7_part_61 : decode cX7_part 61 = .ok (.ireturn, 1) := by decide +kernel
theorem dX7_unbind_0 : decode cX7_unbind 0 = .ok (.aload_n 0, 1) := by decide +kernel
theorem dX7_unbind_1 : decode cX7_unbind 1 = .ok (.iload_n 1, 1) := by decide +kernel
theorem dX7_unbind_2 : decode cX7_unbind 2 = .ok (.invokevirtual 155, 3) := by decide +kernel
theorem dX7_unbind_5 : decode cX7_unbind 5 = .ok (.astore_n 2, 1) := by decide +kernel
theorem dX7_unbind_6 : decode cX7_unbind 6 = .ok (.aload_n 2, 1) := by decide +kernel

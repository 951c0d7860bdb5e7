theorem dX7_unbind_7 : decode cX7_unbind 7 = .ok (.ifnonnull 5, 3) := by decide +kernel
theorem dX7_unbind_10 : decode cX7_unbind 10 = .ok (.iconst 0, 1) := by decide +kernel
theorem dX7_unbind_11 : decode cX7_unbind 11 = .ok (.ireturn, 1) := by decide +kernel
theorem dX7_unbind_12 : decode cX7_unbind 12 = .ok (.aload_n 2, 1) := by decide +kernel
theorem dX7_unbind_13 : decode cX7_unbind 13 = .ok (.invokevirtual 168, 3) := by decide +kernel
theorem dX7_unbind_16 : decode cX7_unbind 16 = .ok (.iconst 1, 1) := by decide +kernel
theorem dX7_unbind_17 : decode cX7_unbind 17 = .ok (.ireturn, 1) := by decide +kernel
theorem dX7_crew_0 : decode cX7_crew 0 = .ok (.aload_n 0, 1) := by decide +kernel
theorem dX7_crew_1 : decode cX7_crew 1 = .ok (.iload_n 1, 1) := by decide +kernel
theorem dX7_crew_2 : decode cX7_crew 2 = .ok (.invokevirtual 94, 3) := by decide +kernel
theorem dX7_crew_5 : decode cX7_crew 5 = .ok (.astore_n 2, 1) := by decide +kernel
theorem dX7_crew_6 : decode cX7_crew 6 = .ok (.aload_n 2, 1) := by decide +kernel
theorem dX7_crew_7 : decode cX7_crew 7 = .ok (.ifnull 12, 3) := by decide +kernel
theorem dX7_crew_10 : decode cX7_crew 10 = .ok (.aload_n 0, 1) := by decide +kernel
theorem dX7_crew_11 : decode cX7_crew 11 = .ok (.getfield 43, 3) := by decide +kernel
theorem dX7_crew_14 : decode cX7_crew 14 = .ok (.bipush 10, 2) := by decide +kernel
theorem dX7_crew_16 : decode cX7_crew 16 = .ok (.if_icmp .lt 5, 3) := by decide +kernel
theorem dX7_crew_19 : decode cX7_crew 19 = .ok (.iconst (-1), 1) := by decide +kernel
theorem dX7_crew_20 : decode cX7_crew 20 = .ok (.ireturn, 1) := by decide +kernel
theorem dX7_crew_21 : decode cX7_crew 21 = .ok (.new 37, 3) := by decide +kernel
theorem dX7_crew_24 : decode cX7_crew 24 = .ok (.dup, 1) := by decide +kernel
theorem dX7_crew_25 : decode cX7_crew 25 = .ok (.aload_n 0, 1) := by decide +kernel
theorem dX7_crew_26 : decode cX7_crew 26 = .ok (.getfield 43, 3) := by decide +kernel
theorem dX7_crew_29 : decode cX7_crew 29 = .ok (.aload_n 2, 1) := by decide +kernel
theorem dX7_crew_30 : decode cX7_crew 30 = .ok (.invokespecial 171, 3) := by decide +kernel
theorem dX7_crew_33 : decode cX7_crew 33 = .ok (.astore_n 3, 1) := by decide +kernel
theorem dX7_crew_34 : decode cX7_crew 34 = .ok (.aload_n 0, 1) := by decide +kernel
theorem dX7_crew_35 : decode cX7_crew 35 = .ok (.getfield 39, 3) := by decide +kernel
theorem dX7_crew_38 : decode cX7_crew 38 = .ok (.aload_n 0, 1) := by decide +kernel
theorem dX7_crew_39 : decode cX7_crew 39 = .ok (.getfield 43, 3) := by decide +kernel
theorem dX7_crew_42 : decode cX7_crew 42 = .ok (.aload_n 3, 1) := by decide +kernel
theorem dX7_crew_43 : decode cX7_crew 43 = .ok (.aastore, 1) := by decide +kernel
theorem dX7_crew_44 : decode cX7_crew 44 = .ok (.aload_n 0, 1) := by decide +kernel
theorem dX7_crew_45 : decode cX7_crew 45 = .ok (.dup, 1) := by decide +kernel
theorem dX7_crew_46 : decode cX7_crew 46 = .ok (.getfield 43, 3) := by decide +kernel
theorem dX7_crew_49 : decode cX7_crew 49 = .ok (.iconst 1, 1) := by decide +kernel
theorem dX7_crew_50 : decode cX7_crew 50 = .ok (.iadd, 1) := by decide +kernel
theorem dX7_crew_51 : decode cX7_crew 51 = .ok (.putfield 43, 3) := by decide +kernel
theorem dX7_crew_54 : decode cX7_crew 54 = .ok (.aload_n 3, 1) := by decide +kernel
theorem dX7_crew_55 : decode cX7_crew 55 = .ok (.getfield 174, 3) := by decide +kernel
theorem dX7_crew_58 : decode cX7_crew 58 = .ok (.ireturn, 1) := by decide +kernel
theorem dX7_ready_0 : decode cX7_ready 0 = .ok (.aload_n 0, 1) := by decide +kernel
theorem dX7_ready_1 : decode cX7_ready 1 = .ok (.iload_n 1, 1) := by decide +kernel
theorem dX7_ready_2 : decode cX7_ready 2 = .ok (.invokevirtual 155, 3) := by decide +kernel
theorem dX7_ready_5 : decode cX7_ready 5 = .ok (.astore_n 3, 1) := by decide +kernel
theorem dX7_ready_6 : decode cX7_ready 6 = .ok (.aload_n 0, 1) := by decide +kernel
theorem dX7_ready_7 : decode cX7_ready 7 = .ok (.iload_n 2, 1) := by decide +kernel
theorem dX7_ready_8 : decode cX7_ready 8 = .ok (.invokevirtual 175, 3) := by decide +kernel
theorem dX7_ready_11 : decode cX7_ready 11 = .ok (.astore 4, 2) := by decide +kernel
theorem dX7_ready_13 : decode cX7_ready 13 = .ok (.aload_n 3, 1) := by decide +kernel
theorem dX7_ready_14 : decode cX7_ready 14 = .ok (.ifnull 25, 3) := by decide +kernel
theorem dX7_ready_17 : decode cX7_ready 17 = .ok (.aload 4, 2) := by decide +kernel
theorem dX7_ready_19 : decode cX7_ready 19 = .ok (.ifnull 20, 3) := by decide +kernel
theorem dX7_ready_22 : decode cX7_ready 22 = .ok (.aload_n 3, 1) := by decide +kernel
theorem dX7_ready_23 : decode cX7_ready 23 = .ok (.getfield 159, 3) := by decide +kernel
theorem dX7_ready_26 : decode cX7_ready 26 = .ok (.ifnull 13, 3) := by decide +kernel
theorem dX7_ready_29 : decode cX7_ready 29 = .ok (.aload_n 3, 1) := by decide +kernel
theorem dX7_ready_30 : decode cX7_ready 30 = .ok (.getfield 159, 3) := by decide +kernel
theorem dX7_ready_33 : decode cX7_ready 33 = .ok (.getfield 179, 3) := by decide +kernel
theorem dX7_ready_36 : decode cX7_ready 36 = .ok (.ifnonnull 5, 3) := by decide +kernel
theorem dX7_ready_39 : decode cX7_ready 39 = .ok (.iconst 0, 1) := by decide +kernel
theorem dX7_ready_40 : decode cX7_ready 40 = .ok (.ireturn, 1) := by decide +kernel
theorem dX7_ready_41 : decode cX7_ready 41 = .ok (.aload 4, 2) := by decide +kernel
theorem dX7_ready_43 : decode cX7_ready 43 = .ok (.getfield 182, 3) := by decide +kernel
theorem dX7_ready_46 : decode cX7_ready 46 = .ok (.aload_n 3, 1) := by decide +kernel
theorem dX7_ready_47 : decode cX7_ready 47 = .ok (.getfield 159, 3) := by decide +kernel
theorem dX7_ready_50 : decode cX7_ready 50 = .ok (.if_acmp .ne 15, 3) := by decide +kernel
theorem dX7_ready_53 : decode cX7_ready 53 = .ok (.aload 4, 2) := by decide +kernel
theorem dX7_ready_55 : decode cX7_ready 55 = .ok (.aload_n 0, 1) := by decide +kernel
theorem dX7_ready_56 : decode cX7_ready 56 = .ok (.getfield 79, 3) := by decide +kernel
theorem dX7_ready_59 : decode cX7_ready 59 = .ok (.invokevirtual 183, 3) := by decide +kernel
theorem dX7_ready_62 : decode cX7_ready 62 = .ok (.ifCond .eq 5, 3) := by decide +kernel
theorem dX7_ready_65 : decode cX7_ready 65 = .ok (.iconst 0, 1) := by decide +kernel
theorem dX7_ready_66 : decode cX7_ready 66 = .ok (.ireturn, 1) := by decide +kernel
theorem dX7_ready_67 : decode cX7_ready 67 = .ok (.aload 4, 2) := by decide +kernel
theorem dX7_ready_69 : decode cX7_ready 69 = .ok (.aload_n 3, 1) := by decide +kernel
theorem dX7_ready_70 : decode cX7_ready 70 = .ok (.invokevirtual 186, 3) := by decide +kernel
theorem dX7_ready_73 : decode cX7_ready 73 = .ok (.iconst 1, 1) := by decide +kernel
theorem dX7_ready_74 : decode cX7_ready 74 = .ok (.ireturn, 1) := by decide +kernel
theorem dX7_tie_0 : decode cX7_tie 0 = .ok (.aload_n 0, 1) := by decide +kernel
theorem dX7_tie_1 : decode cX7_tie 1 = .ok (.iload_n 1, 1) := by decide +kernel
theorem dX7_tie_2 : decode cX7_tie 2 = .ok (.invokevirtual 190, 3) := by decide +kernel
theorem dX7_tie_5 : decode cX7_tie 5 = .ok (.astore_n 2, 1) := by decide +kernel
theorem dX7_tie_6 : decode cX7_tie 6 = .ok (.aload_n 2, 1) := by decide +kernel
theorem dX7_tie_7 : decode cX7_tie 7 = .ok (.ifnull 11, 3) := by decide +kernel
theorem dX7_tie_10 : decode cX7_tie 10 = .ok (.aload_n 2, 1) := by decide +kernel
theorem dX7_tie_11 : decode cX7_tie 11 = .ok (.invokevirtual 193, 3) := by decide +kernel
theorem dX7_tie_14 : decode cX7_tie 14 = .ok (.iconst 1, 1) := by decide +kernel
theorem dX7_tie_15 : decode cX7_tie 15 = .ok (.if_icmp .eq 5, 3) := by decide +kernel
theorem dX7_tie_18 : decode cX7_tie 18 = .ok (.iconst 0, 1) := by decide +kernel
theorem dX7_tie_19 : decode cX7_tie 19 = .ok (.ireturn, 1) := by decide +kernel
theorem dX7_tie_20 : decode cX7_tie 20 = .ok (.aload_n 2, 1) := by decide +kernel
theorem dX7_tie_21 : decode cX7_tie 21 = .ok (.invokevirtual 197, 3) := by decide +kernel
theorem dX7_tie_24 : decode cX7_tie 24 = .ok (.pop, 1) := by decide +kernel
theorem dX7_tie_25 : decode cX7_tie 25 = .ok (.iconst 1, 1) := by decide +kernel
theorem dX7_tie_26 : decode cX7_tie 26 = .ok (.ireturn, 1) := by decide +kernel
theorem dX7_walk_0 : decode cX7_walk 0 = .ok (.aload_n 0, 1) := by decide +kernel
theorem dX7_walk_1 : decode cX7_walk 1 = .ok (.iload_n 1, 1) := by decide +kernel
theorem dX7_walk_2 : decode cX7_walk 2 = .ok (.invokevirtual 175, 3) := by decide +kernel
theorem dX7_walk_5 : decode cX7_walk 5 = .ok (.astore_n 2, 1) := by decide +kernel
theorem dX7_walk_6 : decode cX7_walk 6 = .ok (.aload_n 2, 1) := by decide +kernel
theorem dX7_walk_7 : decode cX7_walk 7 = .ok (.ifnull 21, 3) := by decide +kernel
theorem dX7_walk_10 : decode cX7_walk 10 = .ok (.aload_n 2, 1) := by decide +kernel
theorem dX7_walk_11 : decode cX7_walk 11 = .ok (.getfield 182, 3) := by decide +kernel
theorem dX7_walk_14 : decode cX7_walk 14 = .ok (.ifnull 14, 3) := by decide +kernel
theorem dX7_walk_17 : decode cX7_walk 17 = .ok (.aload_n 2, 1) := by decide +kernel
theorem dX7_walk_18 : decode cX7_walk 18 = .ok (.getfield 182, 3) := by decide +kernel
theorem dX7_walk_21 : decode cX7_walk 21 = .ok (.aload_n 2, 1) := by decide +kernel
theorem dX7_walk_22 : decode cX7_walk 22 = .ok (.getfield 201, 3) := by decide +kernel
theorem dX7_walk_25 : decode cX7_walk 25 = .ok (.if_acmp .ne 5, 3) := by decide +kernel
theorem dX7_walk_28 : decode cX7_walk 28 = .ok (.iconst (-1), 1) := by decide +kernel
theorem dX7_walk_29 : decode cX7_walk 29 = .ok (.ireturn, 1) := by decide +kernel
theorem dX7_walk_30 : decode cX7_walk 30 = .ok (.aload_n 2, 1) := by decide +kernel
theorem dX7_walk_31 : decode cX7_walk 31 = .ok (.getfield 201, 3) := by decide +kernel
theorem dX7_walk_34 : decode cX7_walk 34 = .ok (.aload_n 2, 1) := by decide +kernel
theorem dX7_walk_35 : decode cX7_walk 35 = .ok (.getfield 182, 3) := by decide +kernel
theorem dX7_walk_38 : decode cX7_walk 38 = .ok (.invokevirtual 204, 3) := by decide +kernel
theorem dX7_walk_41 : decode cX7_walk 41 = .ok (.istore_n 3, 1) := by decide +kernel
theorem dX7_walk_42 : decode cX7_walk 42 = .ok (.iload_n 3, 1) := by decide +kernel
theorem dX7_walk_43 : decode cX7_walk 43 = .ok (.iconst (-1), 1) := by decide +kernel
theorem dX7_walk_44 : decode cX7_walk 44 = .ok (.if_icmp .ne 5, 3) := by decide +kernel
theorem dX7_walk_47 : decode cX7_walk 47 = .ok (.iconst (-1), 1) := by decide +kernel
theorem dX7_walk_48 : decode cX7_walk 48 = .ok (.ireturn, 1) := by decide +kernel
theorem dX7_walk_49 : decode cX7_walk 49 = .ok (.aload_n 2, 1) := by decide +kernel
theorem dX7_walk_50 : decode cX7_walk 50 = .ok (.aconst_null, 1) := by decide +kernel
theorem dX7_walk_51 : decode cX7_walk 51 = .ok (.putfield 182, 3) := by decide +kernel
theorem dX7_walk_54 : decode cX7_walk 54 = .ok (.aload_n 2, 1) := by decide +kernel
theorem dX7_walk_55 : decode cX7_walk 55 = .ok (.aload_n 0, 1) := by decide +kernel
theorem dX7_walk_56 : decode cX7_walk 56 = .ok (.getfield 79, 3) := by decide +kernel
theorem dX7_walk_59 : decode cX7_walk 59 = .ok (.iconst 2, 1) := by decide +kernel
theorem dX7_walk_60 : decode cX7_walk 60 = .ok (.iload_n 3, 1) := by decide +kernel
theorem dX7_walk_61 : decode cX7_walk 61 = .ok (.imul, 1) := by decide +kernel
theorem dX7_walk_62 : decode cX7_walk 62 = .ok (.iadd, 1) := by decide +kernel
theorem dX7_walk_63 : decode cX7_walk 63 = .ok (.putfield 208, 3) := by decide +kernel
theorem dX7_walk_66 : decode cX7_walk 66 = .ok (.aload_n 2, 1) := by decide +kernel
theorem dX7_walk_67 : decode cX7_walk 67 = .ok (.getfield 208, 3) := by decide +kernel
theorem dX7_walk_70 : decode cX7_walk 70 = .ok (.ireturn, 1) := by decide +kernel
theorem dX7_go_0 : decode cX7_go 0 = .ok (.iload_n 1, 1) := by decide +kernel
theorem dX7_go_1 : decode cX7_go 1 = .ok (.iconst 0, 1) := by decide +kernel
theorem dX7_go_2 : decode cX7_go 2 = .ok (.sipush 500, 3) := by decide +kernel
theorem dX7_go_5 : decode cX7_go 5 = .ok (.invokestatic 109, 3) := by decide +kernel
theorem dX7_go_8 : decode cX7_go 8 = .ok (.ifCond .ne 5, 3) := by decide +kernel
theorem dX7_go_11 : decode cX7_go 11 = .ok (.iconst (-1), 1) := by decide +kernel
theorem dX7_go_12 : decode cX7_go 12 = .ok (.ireturn, 1) := by decide +kernel
theorem dX7_go_13 : decode cX7_go 13 = .ok (.iconst 0, 1) := by decide +kernel
theorem dX7_go_14 : decode cX7_go 14 = .ok (.istore_n 2, 1) := by decide +kernel
theorem dX7_go_15 : decode cX7_go 15 = .ok (.iload_n 2, 1) := by decide +kernel
theorem dX7_go_16 : decode cX7_go 16 = .ok (.iload_n 1, 1) := by decide +kernel
theorem dX7_go_17 : decode cX7_go 17 = .ok (.if_icmp .ge 23, 3) := by decide +kernel
theorem dX7_go_20 : decode cX7_go 20 = .ok (.aload_n 0, 1) := by decide +kernel
theorem dX7_go_21 : decode cX7_go 21 = .ok (.getfield 79, 3) := by decide +kernel
theorem dX7_go_24 : decode cX7_go 24 = .ok (.sipush 20000, 3) := by decide +kernel
theorem dX7_go_27 : decode cX7_go 27 = .ok (.if_icmp .ge 13, 3) := by decide +kernel
theorem dX7_go_30 : decode cX7_go 30 = .ok (.aload_n 0, 1) := by decide +kernel
theorem dX7_go_31 : decode cX7_go 31 = .ok (.invokevirtual 211, 3) := by decide +kernel
theorem dX7_go_34 : decode cX7_go 34 = .ok (.iinc 2 1, 3) := by decide +kernel
theorem dX7_go_37 : decode cX7_go 37 = .ok (.goto (-22), 3) := by decide +kernel
theorem dX7_go_40 : decode cX7_go 40 = .ok (.aload_n 0, 1) := by decide +kernel
theorem dX7_go_41 : decode cX7_go 41 = .ok (.getfield 79, 3) := by decide +kernel
theorem dX7_go_44 : decode cX7_go 44 = .ok (.ireturn, 1) := by decide +kernel
theorem dX7_passHour_0 : decode cX7_passHour 0 = .ok (.iconst 0, 1) := by decide +kernel
theorem dX7_passHour_1 : decode cX7_passHour 1 = .ok (.istore_n 1, 1) := by decide +kernel
theorem dX7_passHour_2 : decode cX7_passHour 2 = .ok (.iload_n 1, 1) := by decide +kernel
theorem dX7_passHour_3 : decode cX7_passHour 3 = .ok (.aload_n 0, 1) := by decide +kernel
theorem dX7_passHour_4 : decode cX7_passHour 4 = .ok (.getfield 43, 3) := by decide +kernel
theorem dX7_passHour_7 : decode cX7_passHour 7 = .ok (.if_icmp .ge 22, 3) := by decide +kernel
theorem dX7_passHour_10 : decode cX7_passHour 10 = .ok (.aload_n 0, 1) := by decide +kernel
theorem dX7_passHour_11 : decode cX7_passHour 11 = .ok (.getfield 39, 3) := by decide +kernel
theorem dX7_passHour_14 : decode cX7_passHour 14 = .ok (.iload_n 1, 1) := by decide +kernel
theorem dX7_passHour_15 : decode cX7_passHour 15 = .ok (.aaload, 1) := by decide +kernel
theorem dX7_passHour_16 : decode cX7_passHour 16 = .ok (.aload_n 0, 1) := by decide +kernel
theorem dX7_passHour_17 : decode cX7_passHour 17 = .ok (.getfield 79, 3) := by decide +kernel
theorem dX7_passHour_20 : decode cX7_passHour 20 = .ok (.invokevirtual 214, 3) := by decide +kernel
theorem dX7_passHour_23 : decode cX7_passHour 23 = .ok (.iinc 1 1, 3) := by decide +kernel
theorem dX7_passHour_26 : decode cX7_passHour 26 = .ok (.goto (-24), 3) := by decide +kernel
theorem dX7_passHour_29 : decode cX7_passHour 29 = .ok (.iconst 1, 1) := by decide +kernel
theorem dX7_passHour_30 : decode cX7_passHour 30 = .ok (.istore_n 1, 1) := by decide +kernel
theorem dX7_passHour_31 : decode cX7_passHour 31 = .ok (.iload_n 1, 1) := by decide +kernel
theorem dX7_passHour_32 : decode cX7_passHour 32 = .ok (.aload_n 0, 1) := by decide +kernel
theorem dX7_passHour_33 : decode cX7_passHour 33 = .ok (.getfield 15, 3) := by decide +kernel
theorem dX7_passHour_36 : decode cX7_passHour 36 = .ok (.if_icmp .ge 19, 3) := by decide +kernel
theorem dX7_passHour_39 : decode cX7_passHour 39 = .ok (.aload_n 0, 1) := by decide +kernel
theorem dX7_passHour_40 : decode cX7_passHour 40 = .ok (.aload_n 0, 1) := by decide +kernel
theorem dX7_passHour_41 : decode cX7_passHour 41 = .ok (.getfield 11, 3) := by decide +kernel
theorem dX7_passHour_44 : decode cX7_passHour 44 = .ok (.iload_n 1, 1) := by decide +kernel
theorem dX7_passHour_45 : decode cX7_passHour 45 = .ok (.aaload, 1) := by decide +kernel
theorem dX7_passHour_46 : decode cX7_passHour 46 = .ok (.invokevirtual 217, 3) := by decide +kernel
theorem dX7_passHour_49 : decode cX7_passHour 49 = .ok (.iinc 1 1, 3) := by decide +kernel
theorem dX7_passHour_52 : decode cX7_passHour 52 = .ok (.goto (-21), 3) := by decide +kernel
theorem dX7_passHour_55 : decode cX7_passHour 55 = .ok (.iconst 1, 1) := by decide +kernel
theorem dX7_passHour_56 : decode cX7_passHour 56 = .ok (.istore_n 1, 1) := by decide +kernel
theorem dX7_passHour_57 : decode cX7_passHour 57 = .ok (.iload_n 1, 1) := by decide +kernel
theorem dX7_passHour_58 : decode cX7_passHour 58 = .ok (.aload_n 0, 1) := by decide +kernel
theorem dX7_passHour_59 : decode cX7_passHour 59 = .ok (.getfield 15, 3) := by decide +kernel
theorem dX7_passHour_62 : decode cX7_passHour 62 = .ok (.if_icmp .ge 18, 3) := by decide +kernel
theorem dX7_passHour_65 : decode cX7_passHour 65 = .ok (.aload_n 0, 1) := by decide +kernel
theorem dX7_passHour_66 : decode cX7_passHour 66 = .ok (.getfield 11, 3) := by decide +kernel
theorem dX7_passHour_69 : decode cX7_passHour 69 = .ok (.iload_n 1, 1) := by decide +kernel
theorem dX7_passHour_70 : decode cX7_passHour 70 = .ok (.aaload, 1) := by decide +kernel
theorem dX7_passHour_71 : decode cX7_passHour 71 = .ok (.invokevirtual 221, 3) := by decide +kernel
theorem dX7_passHour_74 : decode cX7_passHour 74 = .ok (.iinc 1 1, 3) := by decide +kernel
theorem dX7_passHour_77 : decode cX7_passHour 77 = .ok (.goto (-20), 3) := by decide +kernel
theorem dX7_passHour_80 : decode cX7_passHour 80 = .ok (.aload_n 0, 1) := by decide +kernel
theorem dX7_passHour_81 : decode cX7_passHour 81 = .ok (.dup, 1) := by decide +kernel
theorem dX7_passHour_82 : decode cX7_passHour 82 = .ok (.getfield 79, 3) := by decide +kernel
theorem dX7_passHour_85 : decode cX7_passHour 85 = .ok (.iconst 1, 1) := by decide +kernel
theorem dX7_passHour_86 : decode cX7_passHour 86 = .ok (.iadd, 1) := by decide +kernel
theorem dX7_passHour_87 : decode cX7_passHour 87 = .ok (.putfield 79, 3) := by decide +kernel
theorem dX7_passHour_90 : decode cX7_passHour 90 = .ok (.return_, 1) := by decide +kernel
theorem dX7_openWeir_0 : decode cX7_openWeir 0 = .ok (.aload_n 1, 1) := by decide +kernel
theorem dX7_openWeir_1 : decode cX7_openWeir 1 = .ok (.aload_n 0, 1) := by decide +kernel
theorem dX7_openWeir_2 : decode cX7_openWeir 2 = .ok (.getfield 79, 3) := by decide +kernel
theorem dX7_openWeir_5 : decode cX7_openWeir 5 = .ok (.invokevirtual 224, 3) := by decide +kernel
theorem dX7_openWeir_8 : decode cX7_openWeir 8 = .ok (.ifCond .eq 4, 3) := by decide +kernel
theorem dX7_openWeir_11 : decode cX7_openWeir 11 = .ok (.return_, 1) := by decide +kernel
theorem dX7_openWeir_12 : decode cX7_openWeir 12 = .ok (.aload_n 0, 1) := by decide +kernel
theorem dX7_openWeir_13 : decode cX7_openWeir 13 = .ok (.aload_n 1, 1) := by decide +kernel
theorem dX7_openWeir_14 : decode cX7_openWeir 14 = .ok (.invokevirtual 227, 3) := by decide +kernel
theorem dX7_openWeir_17 : decode cX7_openWeir 17 = .ok (.astore_n 2, 1) := by decide +kernel
theorem dX7_openWeir_18 : decode cX7_openWeir 18 = .ok (.aload_n 2, 1) := by decide +kernel
theorem dX7_openWeir_19 : decode cX7_openWeir 19 = .ok (.ifnull 30, 3) := by decide +kernel
theorem dX7_openWeir_22 : decode cX7_openWeir 22 = .ok (.aload_n 0, 1) := by decide +kernel
theorem dX7_openWeir_23 : decode cX7_openWeir 23 = .ok (.aload_n 2, 1) := by decide +kernel
theorem dX7_openWeir_24 : decode cX7_openWeir 24 = .ok (.invokevirtual 230, 3) := by decide +kernel
theorem dX7_openWeir_27 : decode cX7_openWeir 27 = .ok (.aload_n 1, 1) := by decide +kernel
theorem dX7_openWeir_28 : decode cX7_openWeir 28 = .ok (.dup, 1) := by decide +kernel
theorem dX7_openWeir_29 : decode cX7_openWeir 29 = .ok (.getfield 233, 3) := by decide +kernel
theorem dX7_openWeir_32 : decode cX7_openWeir 32 = .ok (.aload_n 2, 1) := by decide +kernel
theorem dX7_openWeir_33 : decode cX7_openWeir 33 = .ok (.invokevirtual 236, 3) := by decide +kernel
theorem dX7_openWeir_36 : decode cX7_openWeir 36 = .ok (.isub, 1) := by decide +kernel
theorem dX7_openWeir_37 : decode cX7_openWeir 37 = .ok (.putfield 233, 3) := by decide +kernel
theorem dX7_openWeir_40 : decode cX7_openWeir 40 = .ok (.aload_n 2, 1) := by decide +kernel
theorem dX7_openWeir_41 : decode cX7_openWeir 41 = .ok (.aload_n 1, 1) := by decide +kernel
theorem dX7_openWeir_42 : decode cX7_openWeir 42 = .ok (.aload_n 0, 1) := by decide +kernel
theorem dX7_openWeir_43 : decode cX7_openWeir 43 = .ok (.getfield 79, 3) := by decide +kernel
theorem dX7_openWeir_46 : decode cX7_openWeir 46 = .ok (.invokevirtual 239, 3) := by decide +kernel
theorem dX7_openWeir_49 : decode cX7_openWeir 49 = .ok (.return_, 1) := by decide +kernel
theorem dX7_nextAt_0 : decode cX7_nextAt 0 = .ok (.aconst_null, 1) := by decide +kernel
theorem dX7_nextAt_1 : decode cX7_nextAt 1 = .ok (.astore_n 2, 1) := by decide +kernel
theorem dX7_nextAt_2 : decode cX7_nextAt 2 = .ok (.iconst 0, 1) := by decide +kernel
theorem dX7_nextAt_3 : decode cX7_nextAt 3 = .ok (.istore_n 3, 1) := by decide +kernel
theorem dX7_nextAt_4 : decode cX7_nextAt 4 = .ok (.iload_n 3, 1) := by decide +kernel
theorem dX7_nextAt_5 : decode cX7_nextAt 5 = .ok (.aload_n 0, 1) := by decide +kernel
theorem dX7_nextAt_6 : decode cX7_nextAt 6 = .ok (.getfield 43, 3) := by decide +kernel
theorem dX7_nextAt_9 : decode cX7_nextAt 9 = .ok (.if_icmp .ge 63, 3) := by decide +kernel
theorem dX7_nextAt_12 : decode cX7_nextAt 12 = .ok (.aload_n 0, 1) := by decide +kernel
theorem dX7_nextAt_13 : decode cX7_nextAt 13 = .ok (.getfield 39, 3) := by decide +kernel
theorem dX7_nextAt_16 : decode cX7_nextAt 16 = .ok (.iload_n 3, 1) := by decide +kernel
theorem dX7_nextAt_17 : decode cX7_nextAt 17 = .ok (.aaload, 1) := by decide +kernel
theorem dX7_nextAt_18 : decode cX7_nextAt 18 = .ok (.getfield 243, 3) := by decide +kernel
theorem dX7_nextAt_21 : decode cX7_nextAt 21 = .ok (.astore 4, 2) := by decide +kernel
theorem dX7_nextAt_23 : decode cX7_nextAt 23 = .ok (.aload 4, 2) := by decide +kernel
theorem dX7_nextAt_25 : decode cX7_nextAt 25 = .ok (.ifnull 41, 3) := by decide +kernel
theorem dX7_nextAt_28 : decode cX7_nextAt 28 = .ok (.aload 4, 2) := by decide +kernel
theorem dX7_nextAt_30 : decode cX7_nextAt 30 = .ok (.aload_n 1, 1) := by decide +kernel
theorem dX7_nextAt_31 : decode cX7_nextAt 31 = .ok (.invokevirtual 247, 3) := by decide +kernel
theorem dX7_nextAt_34 : decode cX7_nextAt 34 = .ok (.ifCond .eq 32, 3) := by decide +kernel
theorem dX7_nextAt_37 : decode cX7_nextAt 37 = .ok (.aload 4, 2) := by decide +kernel
theorem dX7_nextAt_39 : decode cX7_nextAt 39 = .ok (.invokevirtual 236, 3) := by decide +kernel
theorem dX7_nextAt_42 : decode cX7_nextAt 42 = .ok (.aload_n 1, 1) := by decide +kernel
theorem dX7_nextAt_43 : decode cX7_nextAt 43 = .ok (.getfield 233, 3) := by decide +kernel
theorem dX7_nextAt_46 : decode cX7_nextAt 46 = .ok (.if_icmp .gt 20, 3) := by decide +kernel
theorem dX7_nextAt_49 : decode cX7_nextAt 49 = .ok (.aload_n 2, 1) := by decide +kernel
theorem dX7_nextAt_50 : decode cX7_nextAt 50 = .ok (.ifnull 13, 3) := by decide +kernel
theorem dX7_nextAt_53 : decode cX7_nextAt 53 = .ok (.aload_n 0, 1) := by decide +kernel
theorem dX7_nextAt_54 : decode cX7_nextAt 54 = .ok (.aload 4, 2) := by decide +kernel
theorem dX7_nextAt_56 : decode cX7_nextAt 56 = .ok (.aload_n 2, 1) := by decide +kernel
theorem dX7_nextAt_57 : decode cX7_nextAt 57 = .ok (.invokevirtual 251, 3) := by decide +kernel
theorem dX7_nextAt_60 : decode cX7_nextAt 60 = .ok (.ifCond .eq 6, 3) := by decide +kernel
theorem dX7_nextAt_63 : decode cX7_nextAt 63 = .ok (.aload 4, 2) := by decide +kernel
theorem dX7_nextAt_65 : decode cX7_nextAt 65 = .ok (.astore_n 2, 1) := by decide +kernel
theorem dX7_nextAt_66 : decode cX7_nextAt 66 = .ok (.iinc 3 1, 3) := by decide +kernel
theorem dX7_nextAt_69 : decode cX7_nextAt 69 = .ok (.goto (-65), 3) := by decide +kernel
theorem dX7_nextAt_72 : decode cX7_nextAt 72 = .ok (.aload_n 2, 1) := by decide +kernel
theorem dX7_nextAt_73 : decode cX7_nextAt 73 = .ok (.areturn, 1) := by decide +kernel
theorem dX7_goesAhead_0 : decode cX7_goesAhead 0 = .ok (.aload_n 0, 1) := by decide +kernel
theorem dX7_goesAhead_1 : decode cX7_goesAhead 1 = .ok (.aload_n 1, 1) := by decide +kernel
theorem dX7_goesAhead_2 : decode cX7_goesAhead 2 = .ok (.invokevirtual 255, 3) := by decide +kernel
theorem dX7_goesAhead_5 : decode cX7_goesAhead 5 = .ok (.aload_n 0, 1) := by decide +kernel
theorem dX7_goesAhead_6 : decode cX7_goesAhead 6 = .ok (.aload_n 2, 1) := by decide +kernel
theorem dX7_goesAhead_7 : decode cX7_goesAhead 7 = .ok (.invokevirtual 255, 3) := by decide +kernel
theorem dX7_goesAhead_10 : decode cX7_goesAhead 10 = .ok (.isub, 1) := by decide +kernel
theorem dX7_goesAhead_11 : decode cX7_goesAhead 11 = .ok (.istore_n 3, 1) := by decide +kernel
theorem dX7_goesAhead_12 : decode cX7_goesAhead 12 = .ok (.iload_n 3, 1) := by decide +kernel
theorem dX7_goesAhead_13 : decode cX7_goesAhead 13 = .ok (.ifCond .eq 13, 3) := by decide +kernel
theorem dX7_goesAhead_16 : decode cX7_goesAhead 16 = .ok (.iload_n 3, 1) := by decide +kernel
theorem dX7_goesAhead_17 : decode cX7_goesAhead 17 = .ok (.ifCond .ge 7, 3) := by decide +kernel
theorem dX7_goesAhead_20 : decode cX7_goesAhead 20 = .ok (.iconst 1, 1) := by decide +kernel
theorem dX7_goesAhead_21 : decode cX7_goesAhead 21 = .ok (.goto 4, 3) := by decide +kernel
theorem dX7_goesAhead_24 : decode cX7_goesAhead 24 = .ok (.iconst 0, 1) := by decide +kernel
theorem dX7_goesAhead_25 : decode cX7_goesAhead 25 = .ok (.ireturn, 1) := by decide +kernel
theorem dX7_goesAhead_26 : decode cX7_goesAhead 26 = .ok (.aload_n 1, 1) := by decide +kernel
theorem dX7_goesAhead_27 : decode cX7_goesAhead 27 = .ok (.invokevirtual 259, 3) := by decide +kernel
theorem dX7_goesAhead_30 : decode cX7_goesAhead 30 = .ok (.aload_n 2, 1) := by decide +kernel
theorem dX7_goesAhead_31 : decode cX7_goesAhead 31 = .ok (.invokevirtual 259, 3) := by decide +kernel
theorem dX7_goesAhead_34 : decode cX7_goesAhead 34 = .ok (.isub, 1) := by decide +kernel
theorem dX7_goesAhead_35 : decode cX7_goesAhead 35 = .ok (.istore 4, 2) := by decide +kernel
theorem dX7_goesAhead_37 : decode cX7_goesAhead 37 = .ok (.iload 4, 2) := by decide +kernel
theorem dX7_goesAhead_39 : decode cX7_goesAhead 39 = .ok (.ifCond .eq 14, 3) := by decide +kernel
theorem dX7_goesAhead_42 : decode cX7_goesAhead 42 = .ok (.iload 4, 2) := by decide +kernel
theorem dX7_goesAhead_44 : decode cX7_goesAhead 44 = .ok (.ifCond .le 7, 3) := by decide +kernel
theorem dX7_goesAhead_47 : decode cX7_goesAhead 47 = .ok (.iconst 1, 1) := by decide +kernel
theorem dX7_goesAhead_48 : decode cX7_goesAhead 48 = .ok (.goto 4, 3) := by decide +kernel
theorem dX7_goesAhead_51 : decode cX7_goesAhead 51 = .ok (.iconst 0, 1) := by decide +kernel
theorem dX7_goesAhead_52 : decode cX7_goesAhead 52 = .ok (.ireturn, 1) := by decide +kernel
theorem dX7_goesAhead_53 : decode cX7_goesAhead 53 = .ok (.aload_n 1, 1) := by decide +kernel
theorem dX7_goesAhead_54 : decode cX7_goesAhead 54 = .ok (.getfield 154, 3) := by decide +kernel
theorem dX7_goesAhead_57 : decode cX7_goesAhead 57 = .ok (.aload_n 2, 1) := by decide +kernel
theorem dX7_goesAhead_58 : decode cX7_goesAhead 58 = .ok (.getfield 154, 3) := by decide +kernel
theorem dX7_goesAhead_61 : decode cX7_goesAhead 61 = .ok (.if_icmp .ge 7, 3) := by decide +kernel
theorem dX7_goesAhead_64 : decode cX7_goesAhead 64 = .ok (.iconst 1, 1) := by decide +kernel
theorem dX7_goesAhead_65 : decode cX7_goesAhead 65 = .ok (.goto 4, 3) := by decide +kernel
theorem dX7_goesAhead_68 : decode cX7_goesAhead 68 = .ok (.iconst 0, 1) := by decide +kernel
theorem dX7_goesAhead_69 : decode cX7_goesAhead 69 = .ok (.ireturn, 1) := by decide +kernel
theorem dX7_rightOf_0 : decode cX7_rightOf 0 = .ok (.aload_n 1, 1) := by decide +kernel
theorem dX7_rightOf_1 : decode cX7_rightOf 1 = .ok (.invokevirtual 261, 3) := by decide +kernel
theorem dX7_rightOf_4 : decode cX7_rightOf 4 = .ok (.astore_n 2, 1) := by decide +kernel
theorem dX7_rightOf_5 : decode cX7_rightOf 5 = .ok (.aload_n 2, 1) := by decide +kernel
theorem dX7_rightOf_6 : decode cX7_rightOf 6 = .ok (.ifnonnull 8, 3) := by decide +kernel
theorem dX7_rightOf_9 : decode cX7_rightOf 9 = .ok (.bipush 9, 2) := by decide +kernel
theorem dX7_rightOf_11 : decode cX7_rightOf 11 = .ok (.goto 12, 3) := by decide +kernel
theorem dX7_rightOf_14 : decode cX7_rightOf 14 = .ok (.aload_n 0, 1) := by decide +kernel
theorem dX7_rightOf_15 : decode cX7_rightOf 15 = .ok (.getfield 65, 3) := by decide +kernel
theorem dX7_rightOf_18 : decode cX7_rightOf 18 = .ok (.aload_n 2, 1) := by decide +kernel
theorem dX7_rightOf_19 : decode cX7_rightOf 19 = .ok (.getfield 264, 3) := by decide +kernel
theorem dX7_rightOf_22 : decode cX7_rightOf 22 = .ok (.iaload, 1) := by decide +kernel
theorem dX7_rightOf_23 : decode cX7_rightOf 23 = .ok (.ireturn, 1) := by decide +kernel
theorem dX7_takeTolls_0 : decode cX7_takeTolls 0 = .ok (.aload_n 0, 1) := by decide +kernel
theorem dX7_takeTolls_1 : decode cX7_takeTolls 1 = .ok (.getfield 58, 3) := by decide +kernel
theorem dX7_takeTolls_4 : decode cX7_takeTolls 4 = .ok (.iconst 0, 1) := by decide +kernel
theorem dX7_takeTolls_5 : decode cX7_takeTolls 5 = .ok (.aload_n 0, 1) := by decide +kernel
theorem dX7_takeTolls_6 : decode cX7_takeTolls 6 = .ok (.invokevirtual 267, 3) := by decide +kernel
theorem dX7_takeTolls_9 : decode cX7_takeTolls 9 = .ok (.invokevirtual 270, 3) := by decide +kernel
theorem dX7_takeTolls_12 : decode cX7_takeTolls 12 = .ok (.istore_n 2, 1) := by decide +kernel
theorem dX7_takeTolls_13 : decode cX7_takeTolls 13 = .ok (.iconst 0, 1) := by decide +kernel
theorem dX7_takeTolls_14 : decode cX7_takeTolls 14 = .ok (.istore_n 3, 1) := by decide +kernel
theorem dX7_takeTolls_15 : decode cX7_takeTolls 15 = .ok (.iload_n 3, 1) := by decide +kernel
theorem dX7_takeTolls_16 : decode cX7_takeTolls 16 = .ok (.aload_n 1, 1) := by decide +kernel
theorem dX7_takeTolls_17 : decode cX7_takeTolls 17 = .ok (.getfield 160, 3) := by decide +kernel
theorem dX7_takeTolls_20 : decode cX7_takeTolls 20 = .ok (.if_icmp .ge 66, 3) := by decide +kernel
theorem dX7_takeTolls_23 : decode cX7_takeTolls 23 = .ok (.aload_n 1, 1) := by decide +kernel
theorem dX7_takeTolls_24 : decode cX7_takeTolls 24 = .ok (.getfield 274, 3) := by decide +kernel
theorem dX7_takeTolls_27 : decode cX7_takeTolls 27 = .ok (.iload_n 3, 1) := by decide +kernel
theorem dX7_takeTolls_28 : decode cX7_takeTolls 28 = .ok (.aaload, 1) := by decide +kernel
theorem dX7_takeTolls_29 : decode cX7_takeTolls 29 = .ok (.astore 4, 2) := by decide +kernel
theorem dX7_takeTolls_31 : decode cX7_takeTolls 31 = .ok (.iconst 0, 1) := by decide +kernel
theorem dX7_takeTolls_32 : decode cX7_takeTolls 32 = .ok (.istore 5, 2) := by decide +kernel
theorem dX7_takeTolls_34 : decode cX7_takeTolls 34 = .ok (.iload 5, 2) := by decide +kernel
theorem dX7_takeTolls_36 : decode cX7_takeTolls 36 = .ok (.aload 4, 2) := by decide +kernel
theorem dX7_takeTolls_38 : decode cX7_takeTolls 38 = .ok (.getfield 140, 3) := by decide +kernel
theorem dX7_takeTolls_41 : decode cX7_takeTolls 41 = .ok (.if_icmp .ge 39, 3) := by decide +kernel
theorem dX7_takeTolls_44 : decode cX7_takeTolls 44 = .ok (.aload_n 0, 1) := by decide +kernel
theorem dX7_takeTolls_45 : decode cX7_takeTolls 45 = .ok (.getfield 69, 3) := by decide +kernel
theorem dX7_takeTolls_48 : decode cX7_takeTolls 48 = .ok (.aload 4, 2) := by decide +kernel
theorem dX7_takeTolls_50 : decode cX7_takeTolls 50 = .ok (.getfield 278, 3) := by decide +kernel
theorem dX7_takeTolls_53 : decode cX7_takeTolls 53 = .ok (.iload 5, 2) := by decide +kernel
theorem dX7_takeTolls_55 : decode cX7_takeTolls 55 = .ok (.aaload, 1) := by decide +kernel
theorem dX7_takeTolls_56 : decode cX7_takeTolls 56 = .ok (.getfield 264, 3) := by decide +kernel
theorem dX7_takeTolls_59 : decode cX7_takeTolls 59 = .ok (.dup2, 1) := by decide +kernel
theorem dX7_takeTolls_60 : decode cX7_takeTolls 60 = .ok (.iaload, 1) := by decide +kernel
theorem dX7_takeTolls_61 : decode cX7_takeTolls 61 = .ok (.iload_n 2, 1) := by decide +kernel
theorem dX7_takeTolls_62 : decode cX7_takeTolls 62 = .ok (.isub, 1) := by decide +kernel
theorem dX7_takeTolls_63 : decode cX7_takeTolls 63 = .ok (.iastore, 1) := by decide +kernel
theorem dX7_takeTolls_64 : decode cX7_takeTolls 64 = .ok (.aload_n 0, 1) := by decide +kernel
theorem dX7_takeTolls_65 : decode cX7_takeTolls 65 = .ok (.dup, 1) := by decide +kernel
theorem dX7_takeTolls_66 : decode cX7_takeTolls 66 = .ok (.getfield 82, 3) := by decide +kernel
theorem dX7_takeTolls_69 : decode cX7_takeTolls 69 = .ok (.iload_n 2, 1) := by decide +kernel
theorem dX7_takeTolls_70 : decode cX7_takeTolls 70 = .ok (.iadd, 1) := by decide +kernel
theorem dX7_takeTolls_71 : decode cX7_takeTolls 71 = .ok (.putfield 82, 3) := by decide +kernel
theorem dX7_takeTolls_74 : decode cX7_takeTolls 74 = .ok (.iinc 5 1, 3) := by decide +kernel
theorem dX7_takeTolls_77 : decode cX7_takeTolls 77 = .ok (.goto (-43), 3) := by decide +kernel
theorem dX7_takeTolls_80 : decode cX7_takeTolls 80 = .ok (.iinc 3 1, 3) := by decide +kernel
theorem dX7_takeTolls_83 : decode cX7_takeTolls 83 = .ok (.goto (-68), 3) := by decide +kernel
theorem dX7_takeTolls_86 : decode cX7_takeTolls 86 = .ok (.return_, 1) := by decide +kernel
theorem dX7_storm_0 : decode cX7_storm 0 = .ok (.aload_n 0, 1) := by decide +kernel
theorem dX7_storm_1 : decode cX7_storm 1 = .ok (.iload_n 1, 1) := by decide +kernel
theorem dX7_storm_2 : decode cX7_storm 2 = .ok (.invokevirtual 94, 3) := by decide +kernel
theorem dX7_storm_5 : decode cX7_storm 5 = .ok (.astore 4, 2) := by decide +kernel
theorem dX7_storm_7 : decode cX7_storm 7 = .ok (.aload 4, 2) := by decide +kernel
theorem dX7_storm_9 : decode cX7_storm 9 = .ok (.ifnull 16, 3) := by decide +kernel
theorem dX7_storm_12 : decode cX7_storm 12 = .ok (.iload_n 2, 1) := by decide +kernel
theorem dX7_storm_13 : decode cX7_storm 13 = .ok (.aload_n 0, 1) := by decide +kernel
theorem dX7_storm_14 : decode cX7_storm 14 = .ok (.getfield 79, 3) := by decide +kernel
theorem dX7_storm_17 : decode cX7_storm 17 = .ok (.if_icmp .lt 8, 3) := by decide +kernel
theorem dX7_storm_20 : decode cX7_storm 20 = .ok (.iload_n 3, 1) := by decide +kernel
theorem dX7_storm_21 : decode cX7_storm 21 = .ok (.iload_n 2, 1) := by decide +kernel
theorem dX7_storm_22 : decode cX7_storm 22 = .ok (.if_icmp .gt 5, 3) := by decide +kernel
theorem dX7_storm_25 : decode cX7_storm 25 = .ok (.iconst 0, 1) := by decide +kernel
theorem dX7_storm_26 : decode cX7_storm 26 = .ok (.ireturn, 1) := by decide +kernel
theorem dX7_storm_27 : decode cX7_storm 27 = .ok (.aload 4, 2) := by decide +kernel
theorem dX7_storm_29 : decode cX7_storm 29 = .ok (.iload_n 2, 1) := by decide +kernel
theorem dX7_storm_30 : decode cX7_storm 30 = .ok (.putfield 279, 3) := by decide +kernel
theorem dX7_storm_33 : decode cX7_storm 33 = .ok (.aload 4, 2) := by decide +kernel
theorem dX7_storm_35 : decode cX7_storm 35 = .ok (.iload_n 3, 1) := by decide +kernel
theorem dX7_storm_36 : decode cX7_storm 36 = .ok (.putfield 282, 3) := by decide +kernel
theorem dX7_storm_39 : decode cX7_storm 39 = .ok (.iconst 1, 1) := by decide +kernel
theorem dX7_storm_40 : decode cX7_storm 40 = .ok (.ireturn, 1) := by decide +kernel
theorem dX7_breaks_0 : decode cX7_breaks 0 = .ok (.aload_n 0, 1) := by decide +kernel
theorem dX7_breaks_1 : decode cX7_breaks 1 = .ok (.iload_n 1, 1) := by decide +kernel
theorem dX7_breaks_2 : decode cX7_breaks 2 = .ok (.invokevirtual 190, 3) := by decide +kernel
theorem dX7_breaks_5 : decode cX7_breaks 5 = .ok (.astore_n 3, 1) := by decide +kernel
theorem dX7_breaks_6 : decode cX7_breaks 6 = .ok (.aload_n 3, 1) := by decide +kernel
theorem dX7_breaks_7 : decode cX7_breaks 7 = .ok (.ifnull 11, 3) := by decide +kernel
theorem dX7_breaks_10 : decode cX7_breaks 10 = .ok (.aload_n 3, 1) := by decide +kernel
theorem dX7_breaks_11 : decode cX7_breaks 11 = .ok (.invokevirtual 193, 3) := by decide +kernel
theorem dX7_breaks_14 : decode cX7_breaks 14 = .ok (.iconst 2, 1) := by decide +kernel
theorem dX7_breaks_15 : decode cX7_breaks 15 = .ok (.if_icmp .eq 5, 3) := by decide +kernel
theorem dX7_breaks_18 : decode cX7_breaks 18 = .ok (.iconst (-1), 1) := by decide +kernel
theorem dX7_breaks_19 : decode cX7_breaks 19 = .ok (.ireturn, 1) := by decide +kernel
theorem dX7_breaks_20 : decode cX7_breaks 20 = .ok (.aload_n 3, 1) := by decide +kernel
theorem dX7_breaks_21 : decode cX7_breaks 21 = .ok (.iload_n 2, 1) := by decide +kernel
theorem dX7_breaks_22 : decode cX7_breaks 22 = .ok (.ifCond .eq 7, 3) := by decide +kernel
theorem dX7_breaks_25 : decode cX7_breaks 25 = .ok (.iconst 1, 1) := by decide +kernel
theorem dX7_breaks_26 : decode cX7_breaks 26 = .ok (.goto 4, 3) := by decide +kernel
theorem dX7_breaks_29 : decode cX7_breaks 29 = .ok (.iconst 0, 1) := by decide +kernel
theorem dX7_breaks_30 : decode cX7_breaks 30 = .ok (.invokevirtual 285, 3) := by decide +kernel
theorem dX7_breaks_33 : decode cX7_breaks 33 = .ok (.istore 4, 2) := by decide +kernel
theorem dX7_breaks_35 : decode cX7_breaks 35 = .ok (.aload_n 0, 1) := by decide +kernel
theorem dX7_breaks_36 : decode cX7_breaks 36 = .ok (.dup, 1) := by decide +kernel
theorem dX7_breaks_37 : decode cX7_breaks 37 = .ok (.getfield 88, 3) := by decide +kernel
theorem dX7_breaks_40 : decode cX7_breaks 40 = .ok (.iload 4, 2) := by decide +kernel
theorem dX7_breaks_42 : decode cX7_breaks 42 = .ok (.iadd, 1) := by decide +kernel
theorem dX7_breaks_43 : decode cX7_breaks 43 = .ok (.putfield 88, 3) := by decide +kernel
theorem dX7_breaks_46 : decode cX7_breaks 46 = .ok (.aload_n 3, 1) := by decide +kernel
theorem dX7_breaks_47 : decode cX7_breaks 47 = .ok (.invokevirtual 197, 3) := by decide +kernel
theorem dX7_breaks_50 : decode cX7_breaks 50 = .ok (.astore 5, 2) := by decide +kernel
theorem dX7_breaks_52 : decode cX7_breaks 52 = .ok (.aload 5, 2) := by decide +kernel
theorem dX7_breaks_54 : decode cX7_breaks 54 = .ok (.ifnull 12, 3) := by decide +kernel
theorem dX7_breaks_57 : decode cX7_breaks 57 = .ok (.aload 5, 2) := by decide +kernel
theorem dX7_breaks_59 : decode cX7_breaks 59 = .ok (.aload_n 0, 1) := by decide +kernel
theorem dX7_breaks_60 : decode cX7_breaks 60 = .ok (.getfield 79, 3) := by decide +kernel
theorem dX7_breaks_63 : decode cX7_breaks 63 = .ok (.putfield 288, 3) := by decide +kernel
theorem dX7_breaks_66 : decode cX7_breaks 66 = .ok (.aload_n 3, 1) := by decide +kernel
theorem dX7_breaks_67 : decode cX7_breaks 67 = .ok (.invokevirtual 168, 3) := by decide +kernel
theorem dX7_breaks_70 : decode cX7_breaks 70 = .ok (.iload 4, 2) := by decide +kernel
theorem dX7_breaks_72 : decode cX7_breaks 72 = .ok (.ireturn, 1) := by decide +kernel
theorem dX7_right_0 : decode cX7_right 0 = .ok (.iload_n 1, 1) := by decide +kernel
theorem dX7_right_1 : decode cX7_right 1 = .ok (.invokestatic 291, 3) := by decide +kernel
theorem dX7_right_4 : decode cX7_right 4 = .ok (.ifCond .eq 13, 3) := by decide +kernel
theorem dX7_right_7 : decode cX7_right 7 = .ok (.iload_n 2, 1) := by decide +kernel
theorem dX7_right_8 : decode cX7_right 8 = .ok (.iconst 0, 1) := by decide +kernel
theorem dX7_right_9 : decode cX7_right 9 = .ok (.bipush 9, 2) := by decide +kernel
theorem dX7_right_11 : decode cX7_right 11 = .ok (.invokestatic 109, 3) := by decide +kernel
theorem dX7_right_14 : decode cX7_right 14 = .ok (.ifCond .ne 5, 3) := by decide +kernel
theorem dX7_right_17 : decode cX7_right 17 = .ok (.iconst 0, 1) := by decide +kernel
theorem dX7_right_18 : decode cX7_right 18 = .ok (.ireturn, 1) := by decide +kernel
theorem dX7_right_19 : decode cX7_right 19 = .ok (.aload_n 0, 1) := by decide +kernel
theorem dX7_right_20 : decode cX7_right 20 = .ok (.getfield 65, 3) := by decide +kernel
theorem dX7_right_23 : decode cX7_right 23 = .ok (.iload_n 1, 1) := by decide +kernel
theorem dX7_right_24 : decode cX7_right 24 = .ok (.iload_n 2, 1) := by decide +kernel
theorem dX7_right_25 : decode cX7_right 25 = .ok (.iastore, 1) := by decide +kernel
theorem dX7_right_26 : decode cX7_right 26 = .ok (.iconst 1, 1) := by decide +kernel
theorem dX7_right_27 : decode cX7_right 27 = .ok (.ireturn, 1) := by decide +kernel
theorem dX7_toll_0 : decode cX7_toll 0 = .ok (.iload_n 1, 1) := by decide +kernel
theorem dX7_toll_1 : decode cX7_toll 1 = .ok (.iconst 0, 1) := by decide +kernel
theorem dX7_toll_2 : decode cX7_toll 2 = .ok (.sipush 1000, 3) := by decide +kernel
theorem dX7_toll_5 : decode cX7_toll 5 = .ok (.invokestatic 109, 3) := by decide +kernel
theorem dX7_toll_8 : decode cX7_toll 8 = .ok (.ifCond .eq 30, 3) := by decide +kernel
theorem dX7_toll_11 : decode cX7_toll 11 = .ok (.iload_n 2, 1) := by decide +kernel
theorem dX7_toll_12 : decode cX7_toll 12 = .ok (.iconst 0, 1) := by decide +kernel
theorem dX7_toll_13 : decode cX7_toll 13 = .ok (.bipush 100, 2) := by decide +kernel
theorem dX7_toll_15 : decode cX7_toll 15 = .ok (.invokestatic 109, 3) := by decide +kernel
theorem dX7_toll_18 : decode cX7_toll 18 = .ok (.ifCond .eq 20, 3) := by decide +kernel
theorem dX7_toll_21 : decode cX7_toll 21 = .ok (.aload_n 0, 1) := by decide +kernel
theorem dX7_toll_22 : decode cX7_toll 22 = .ok (.getfield 58, 3) := by decide +kernel
theorem dX7_toll_25 : decode cX7_toll 25 = .ok (.iconst 0, 1) := by decide +kernel
theorem dX7_toll_26 : decode cX7_toll 26 = .ok (.iload_n 1, 1) := by decide +kernel
theorem dX7_toll_27 : decode cX7_toll 27 = .ok (.iload_n 2, 1) := by decide +kernel
theorem dX7_toll_28 : decode cX7_toll 28 = .ok (.invokevirtual 294, 3) := by decide +kernel
theorem dX7_toll_31 : decode cX7_toll 31 = .ok (.ifCond .eq 7, 3) := by decide +kernel
theorem dX7_toll_34 : decode cX7_toll 34 = .ok (.iconst 1, 1) := by decide +kernel
theorem dX7_toll_35 : decode cX7_toll 35 = .ok (.goto 4, 3) := by decide +kernel
theorem dX7_toll_38 : decode cX7_toll 38 = .ok (.iconst 0, 1) := by decide +kernel
theorem dX7_toll_39 : decode cX7_toll 39 = .ok (.ireturn, 1) := by decide +kernel
theorem dX7_price_0 : decode cX7_price 0 = .ok (.aload_n 0, 1) := by decide +kernel
theorem dX7_price_1 : decode cX7_price 1 = .ok (.iload_n 1, 1) := by decide +kernel
theorem dX7_price_2 : decode cX7_price 2 = .ok (.invokevirtual 94, 3) := by decide +kernel
theorem dX7_price_5 : decode cX7_price 5 = .ok (.astore 5, 2) := by decide +kernel
theorem dX7_price_7 : decode cX7_price 7 = .ok (.aload 5, 2) := by decide +kernel
theorem dX7_price_9 : decode cX7_price 9 = .ok (.ifnull 20, 3) := by decide +kernel
theorem dX7_price_12 : decode cX7_price 12 = .ok (.aload 5, 2) := by decide +kernel
theorem dX7_price_14 : decode cX7_price 14 = .ok (.getfield 297, 3) := by decide +kernel
theorem dX7_price_17 : decode cX7_price 17 = .ok (.ifCond .eq 12, 3) := by decide +kernel
theorem dX7_price_20 : decode cX7_price 20 = .ok (.iload_n 2, 1) := by decide +kernel
theorem dX7_price_21 : decode cX7_price 21 = .ok (.iconst 0, 1) := by decide +kernel
theorem dX7_price_22 : decode cX7_price 22 = .ok (.iconst 3, 1) := by decide +kernel
theorem dX7_price_23 : decode cX7_price 23 = .ok (.invokestatic 109, 3) := by decide +kernel
theorem dX7_price_26 : decode cX7_price 26 = .ok (.ifCond .ne 5, 3) := by decide +kernel
theorem dX7_price_29 : decode cX7_price 29 = .ok (.iconst 0, 1) := by decide +kernel
theorem dX7_price_30 : decode cX7_price 30 = .ok (.ireturn, 1) := by decide +kernel
theorem dX7_price_31 : decode cX7_price 31 = .ok (.iload_n 3, 1) := by decide +kernel
theorem dX7_price_32 : decode cX7_price 32 = .ok (.iconst 0, 1) := by decide +kernel
theorem dX7_price_33 : decode cX7_price 33 = .ok (.sipush 1000, 3) := by decide +kernel
theorem dX7_price_36 : decode cX7_price 36 = .ok (.invokestatic 109, 3) := by decide +kernel
theorem dX7_price_39 : decode cX7_price 39 = .ok (.ifCond .eq 38, 3) := by decide +kernel
theorem dX7_price_42 : decode cX7_price 42 = .ok (.iload 4, 2) := by decide +kernel
theorem dX7_price_44 : decode cX7_price 44 = .ok (.iconst 0, 1) := by decide +kernel
theorem dX7_price_45 : decode cX7_price 45 = .ok (.sipush 1000, 3) := by decide +kernel
theorem dX7_price_48 : decode cX7_price 48 = .ok (.invokestatic 109, 3) := by decide +kernel
theorem dX7_price_51 : decode cX7_price 51 = .ok (.ifCond .eq 26, 3) := by decide +kernel
theorem dX7_price_54 : decode cX7_price 54 = .ok (.aload_n 0, 1) := by decide +kernel
theorem dX7_price_55 : decode cX7_price 55 = .ok (.getfield 62, 3) := by decide +kernel
theorem dX7_price_58 : decode cX7_price 58 = .ok (.aload 5, 2) := by decide +kernel
theorem dX7_price_60 : decode cX7_price 60 = .ok (.iload_n 2, 1) := by decide +kernel
theorem dX7_price_61 : decode cX7_price 61 = .ok (.invokestatic 301, 3) := by decide +kernel
theorem dX7_price_64 : decode cX7_price 64 = .ok (.iload_n 3, 1) := by decide +kernel
theorem dX7_price_65 : decode cX7_price 65 = .ok (.iload 4, 2) := by decide +kernel
theorem dX7_price_67 : decode cX7_price 67 = .ok (.invokevirtual 294, 3) := by decide +kernel
theorem dX7_price_70 : decode cX7_price 70 = .ok (.ifCond .eq 7, 3) := by decide +kernel
theorem dX7_price_73 : decode cX7_price 73 = .ok (.iconst 1, 1) := by decide +kernel
theorem dX7_price_74 : decode cX7_price 74 = .ok (.goto 4, 3) := by decide +kernel
theorem dX7_price_77 : decode cX7_price 77 = .ok (.iconst 0, 1) := by decide +kernel
theorem dX7_price_78 : decode cX7_price 78 = .ok (.ireturn, 1) := by decide +kernel
theorem dX7_sell_0 : decode cX7_sell 0 = .ok (.aload_n 0, 1) := by decide +kernel
theorem dX7_sell_1 : decode cX7_sell 1 = .ok (.iload_n 1, 1) := by decide +kernel
theorem dX7_sell_2 : decode cX7_sell 2 = .ok (.invokevirtual 124, 3) := by decide +kernel
theorem dX7_sell_5 : decode cX7_sell 5 = .ok (.astore_n 2, 1) := by decide +kernel
theorem dX7_sell_6 : decode cX7_sell 6 = .ok (.aload_n 2, 1) := by decide +kernel
theorem dX7_sell_7 : decode cX7_sell 7 = .ok (.ifnull 31, 3) := by decide +kernel
theorem dX7_sell_10 : decode cX7_sell 10 = .ok (.aload_n 2, 1) := by decide +kernel
theorem dX7_sell_11 : decode cX7_sell 11 = .ok (.getfield 128, 3) := by decide +kernel
theorem dX7_sell_14 : decode cX7_sell 14 = .ok (.ifnull 24, 3) := by decide +kernel
theorem dX7_sell_17 : decode cX7_sell 17 = .ok (.aload_n 2, 1) := by decide +kernel
theorem dX7_sell_18 : decode cX7_sell 18 = .ok (.getfield 128, 3) := by decide +kernel
theorem dX7_sell_21 : decode cX7_sell 21 = .ok (.getfield 297, 3) := by decide +kernel
theorem dX7_sell_24 : decode cX7_sell 24 = .ok (.ifCond .eq 14, 3) := by decide +kernel
theorem dX7_sell_27 : decode cX7_sell 27 = .ok (.aload_n 0, 1) := by decide +kernel
theorem dX7_sell_28 : decode cX7_sell 28 = .ok (.getfield 49, 3) := by decide +kernel
theorem dX7_sell_31 : decode cX7_sell 31 = .ok (.aload_n 2, 1) := by decide +kernel
theorem dX7_sell_32 : decode cX7_sell 32 = .ok (.invokevirtual 305, 3) := by decide +kernel
theorem dX7_sell_35 : decode cX7_sell 35 = .ok (.ifCond .eq 5, 3) := by decide +kernel
theorem dX7_sell_38 : decode cX7_sell 38 = .ok (.iconst (-1), 1) := by decide +kernel
theorem dX7_sell_39 : decode cX7_sell 39 = .ok (.ireturn, 1) := by decide +kernel
theorem dX7_sell_40 : decode cX7_sell 40 = .ok (.aload_n 0, 1) := by decide +kernel
theorem dX7_sell_41 : decode cX7_sell 41 = .ok (.getfield 62, 3) := by decide +kernel
theorem dX7_sell_44 : decode cX7_sell 44 = .ok (.aload_n 2, 1) := by decide +kernel
theorem dX7_sell_45 : decode cX7_sell 45 = .ok (.getfield 128, 3) := by decide +kernel
theorem dX7_sell_48 : decode cX7_sell 48 = .ok (.aload_n 2, 1) := by decide +kernel
theorem dX7_sell_49 : decode cX7_sell 49 = .ok (.getfield 308, 3) := by decide +kernel
theorem dX7_sell_52 : decode cX7_sell 52 = .ok (.invokestatic 301, 3) := by decide +kernel
theorem dX7_sell_55 : decode cX7_sell 55 = .ok (.aload_n 0, 1) := by decide +kernel
theorem dX7_sell_56 : decode cX7_sell 56 = .ok (.invokevirtual 267, 3) := by decide +kernel
theorem dX7_sell_59 : decode cX7_sell 59 = .ok (.invokevirtual 270, 3) := by decide +kernel
theorem dX7_sell_62 : decode cX7_sell 62 = .ok (.aload_n 2, 1) := by decide +kernel
theorem dX7_sell_63 : decode cX7_sell 63 = .ok (.getfield 311, 3) := by decide +kernel
theorem dX7_sell_66 : decode cX7_sell 66 = .ok (.imul, 1) := by decide +kernel
theorem dX7_sell_67 : decode cX7_sell 67 = .ok (.istore_n 3, 1) := by decide +kernel
theorem dX7_sell_68 : decode cX7_sell 68 = .ok (.aload_n 2, 1) := by decide +kernel
theorem dX7_sell_69 : decode cX7_sell 69 = .ok (.aconst_null, 1) := by decide +kernel
theorem dX7_sell_70 : decode cX7_sell 70 = .ok (.putfield 128, 3) := by decide +kernel
theorem dX7_sell_73 : decode cX7_sell 73 = .ok (.aload_n 2, 1) := by decide +kernel
theorem dX7_sell_74 : decode cX7_sell 74 = .ok (.iload_n 3, 1) := by decide +kernel
theorem dX7_sell_75 : decode cX7_sell 75 = .ok (.putfield 314, 3) := by decide +kernel
theorem dX7_sell_78 : decode cX7_sell 78 = .ok (.aload_n 0, 1) := by decide +kernel
theorem dX7_sell_79 : decode cX7_sell 79 = .ok (.getfield 69, 3) := by decide +kernel
theorem dX7_sell_82 : decode cX7_sell 82 = .ok (.aload_n 2, 1) := by decide +kernel
theorem dX7_sell_83 : decode cX7_sell 83 = .ok (.getfield 264, 3) := by decide +kernel
theorem dX7_sell_86 : decode cX7_sell 86 = .ok (.dup2, 1) := by decide +kernel
theorem dX7_sell_87 : decode cX7_sell 87 = .ok (.iaload, 1) := by decide +kernel
theorem dX7_sell_88 : decode cX7_sell 88 = .ok (.iload_n 3, 1) := by decide +kernel
theorem dX7_sell_89 : decode cX7_sell 89 = .ok (.iadd, 1) := by decide +kernel
theorem dX7_sell_90 : decode cX7_sell 90 = .ok (.iastore, 1) := by decide +kernel
theorem dX7_sell_91 : decode cX7_sell 91 = .ok (.aload_n 0, 1) := by decide +kernel
theorem dX7_sell_92 : decode cX7_sell 92 = .ok (.dup, 1) := by decide +kernel
theorem dX7_sell_93 : decode cX7_sell 93 = .ok (.getfield 85, 3) := by decide +kernel
theorem dX7_sell_96 : decode cX7_sell 96 = .ok (.iconst 1, 1) := by decide +kernel
theorem dX7_sell_97 : decode cX7_sell 97 = .ok (.iadd, 1) := by decide +kernel
theorem dX7_sell_98 : decode cX7_sell 98 = .ok (.putfield 85, 3) := by decide +kernel
theorem dX7_sell_101 : decode cX7_sell 101 = .ok (.iload_n 3, 1) := by decide +kernel
theorem dX7_sell_102 : decode cX7_sell 102 = .ok (.ireturn, 1) := by decide +kernel
theorem dX7_advance_0 : decode cX7_advance 0 = .ok (.iload_n 1, 1) := by decide +kernel
theorem dX7_advance_1 : decode cX7_advance 1 = .ok (.invokestatic 291, 3) := by decide +kernel
theorem dX7_advance_4 : decode cX7_advance 4 = .ok (.ifCond .eq 14, 3) := by decide +kernel
theorem dX7_advance_7 : decode cX7_advance 7 = .ok (.iload_n 2, 1) := by decide +kernel
theorem dX7_advance_8 : decode cX7_advance 8 = .ok (.iconst 1, 1) := by decide +kernel
theorem dX7_advance_9 : decode cX7_advance 9 = .ok (.ldc_w 317, 3) := by decide +kernel
theorem dX7_advance_12 : decode cX7_advance 12 = .ok (.invokestatic 109, 3) := by decide +kernel
theorem dX7_advance_15 : decode cX7_advance 15 = .ok (.ifCond .ne 7, 3) := by decide +kernel
theorem dX7_advance_18 : decode cX7_advance 18 = .ok (.ldc_w 318, 3) := by decide +kernel
theorem dX7_advance_21 : decode cX7_advance 21 = .ok (.ireturn, 1) := by decide +kernel
theorem dX7_advance_22 : decode cX7_advance 22 = .ok (.aload_n 0, 1) := by decide +kernel
theorem dX7_advance_23 : decode cX7_advance 23 = .ok (.getfield 69, 3) := by decide +kernel
theorem dX7_advance_26 : decode cX7_advance 26 = .ok (.iload_n 1, 1) := by decide +kernel
theorem dX7_advance_27 : decode cX7_advance 27 = .ok (.dup2, 1) := by decide +kernel
theorem dX7_advance_28 : decode cX7_advance 28 = .ok (.iaload, 1) := by decide +kernel
theorem dX7_advance_29 : decode cX7_advance 29 = .ok (.iload_n 2, 1) := by decide +kernel
theorem dX7_advance_30 : decode cX7_advance 30 = .ok (.isub, 1) := by decide +kernel
theorem dX7_advance_31 : decode cX7_advance 31 = .ok (.iastore, 1) := by decide +kernel
theorem dX7_advance_32 : decode cX7_advance 32 = .ok (.aload_n 0, 1) := by decide +kernel
theorem dX7_advance_33 : decode cX7_advance 33 = .ok (.getfield 69, 3) := by decide +kernel
theorem dX7_advance_36 : decode cX7_advance 36 = .ok (.iload_n 1, 1) := by decide +kernel
theorem dX7_advance_37 : decode cX7_advance 37 = .ok (.iaload, 1) := by decide +kernel
theorem dX7_advance_38 : decode cX7_advance 38 = .ok (.ireturn, 1) := by decide +kernel
theorem dX7_balance_0 : decode cX7_balance 0 = .ok (.iload_n 1, 1) := by decide +kernel
theorem dX7_balance_1 : decode cX7_balance 1 = .ok (.invokestatic 291, 3) := by decide +kernel
theorem dX7_balance_4 : decode cX7_balance 4 = .ok (.ifCond .eq 12, 3) := by decide +kernel
theorem dX7_balance_7 : decode cX7_balance 7 = .ok (.aload_n 0, 1) := by decide +kernel
theorem dX7_balance_8 : decode cX7_balance 8 = .ok (.getfield 69, 3) := by decide +kernel
theorem dX7_balance_11 : decode cX7_balance 11 = .ok (.iload_n 1, 1) := by decide +kernel
theorem dX7_balance_12 : decode cX7_balance 12 = .ok (.iaload, 1) := by decide +kernel
theorem dX7_balance_13 : decode cX7_balance 13 = .ok (.goto 4, 3) := by decide +kernel
theorem dX7_balance_16 : decode cX7_balance 16 = .ok (.iconst 0, 1) := by decide +kernel
theorem dX7_balance_17 : decode cX7_balance 17 = .ok (.ireturn, 1) := by decide +kernel
theorem dX7_best_0 : decode cX7_best 0 = .ok (.aload_n 0, 1) := by decide +kernel
theorem dX7_best_1 : decode cX7_best 1 = .ok (.iload_n 1, 1) := by decide +kernel
theorem dX7_best_2 : decode cX7_best 2 = .ok (.invokevirtual 319, 3) := by decide +kernel
theorem dX7_best_5 : decode cX7_best 5 = .ok (.aload_n 0, 1) := by decide +kernel
theorem dX7_best_6 : decode cX7_best 6 = .ok (.getfield 75, 3) := by decide +kernel
theorem dX7_best_9 : decode cX7_best 9 = .ok (.iload_n 2, 1) := by decide +kernel
theorem dX7_best_10 : decode cX7_best 10 = .ok (.invokevirtual 322, 3) := by decide +kernel
theorem dX7_best_13 : decode cX7_best 13 = .ok (.ireturn, 1) := by decide +kernel
theorem dX7_passes_0 : decode cX7_passes 0 = .ok (.aload_n 0, 1) := by decide +kernel
theorem dX7_passes_1 : decode cX7_passes 1 = .ok (.iload_n 1, 1) := by decide +kernel
theorem dX7_passes_2 : decode cX7_passes 2 = .ok (.invokevirtual 319, 3) := by decide +kernel
theorem dX7_passes_5 : decode cX7_passes 5 = .ok (.aload_n 0, 1) := by decide +kernel
theorem dX7_passes_6 : decode cX7_passes 6 = .ok (.getfield 75, 3) := by decide +kernel
theorem dX7_passes_9 : decode cX7_passes 9 = .ok (.iload_n 2, 1) := by decide +kernel
theorem dX7_passes_10 : decode cX7_passes 10 = .ok (.invokevirtual 325, 3) := by decide +kernel
theorem dX7_passes_13 : decode cX7_passes 13 = .ok (.ireturn, 1) := by decide +kernel
theorem dX7_makePlan_0 : decode cX7_makePlan 0 = .ok (.aload_n 0, 1) := by decide +kernel
theorem dX7_makePlan_1 : decode cX7_makePlan 1 = .ok (.getfield 75, 3) := by decide +kernel
theorem dX7_makePlan_4 : decode cX7_makePlan 4 = .ok (.invokevirtual 328, 3) := by decide +kernel
theorem dX7_makePlan_7 : decode cX7_makePlan 7 = .ok (.aload_n 0, 1) := by decide +kernel
theorem dX7_makePlan_8 : decode cX7_makePlan 8 = .ok (.iload_n 1, 1) := by decide +kernel
theorem dX7_makePlan_9 : decode cX7_makePlan 9 = .ok (.invokevirtual 94, 3) := by decide +kernel
theorem dX7_makePlan_12 : decode cX7_makePlan 12 = .ok (.astore_n 2, 1) := by decide +kernel
theorem dX7_makePlan_13 : decode cX7_makePlan 13 = .ok (.aload_n 2, 1) := by decide +kernel
theorem dX7_makePlan_14 : decode cX7_makePlan 14 = .ok (.ifnull 10, 3) := by decide +kernel
theorem dX7_makePlan_17 : decode cX7_makePlan 17 = .ok (.aload_n 2, 1) := by decide +kernel
theorem dX7_makePlan_18 : decode cX7_makePlan 18 = .ok (.getfield 179, 3) := by decide +kernel
theorem dX7_makePlan_21 : decode cX7_makePlan 21 = .ok (.ifnonnull 4, 3) := by decide +kernel
theorem dX7_makePlan_24 : decode cX7_makePlan 24 = .ok (.return_, 1) := by decide +kernel
theorem dX7_makePlan_25 : decode cX7_makePlan 25 = .ok (.iconst 0, 1) := by decide +kernel
theorem dX7_makePlan_26 : decode cX7_makePlan 26 = .ok (.istore_n 3, 1) := by decide +kernel
theorem dX7_makePlan_27 : decode cX7_makePlan 27 = .ok (.iload_n 3, 1) := by decide +kernel
theorem dX7_makePlan_28 : decode cX7_makePlan 28 = .ok (.aload_n 0, 1) := by decide +kernel
theorem dX7_makePlan_29 : decode cX7_makePlan 29 = .ok (.getfield 34, 3) := by decide +kernel
theorem dX7_makePlan_32 : decode cX7_makePlan 32 = .ok (.if_icmp .ge 51, 3) := by decide +kernel
theorem dX7_makePlan_35 : decode cX7_makePlan 35 = .ok (.aload_n 0, 1) := by decide +kernel
theorem dX7_makePlan_36 : decode cX7_makePlan 36 = .ok (.getfield 30, 3) := by decide +kernel
theorem dX7_makePlan_39 : decode cX7_makePlan 39 = .ok (.iload_n 3, 1) := by decide +kernel
theorem dX7_makePlan_40 : decode cX7_makePlan 40 = .ok (.aaload, 1) := by decide +kernel
theorem dX7_makePlan_41 : decode cX7_makePlan 41 = .ok (.aload_n 2, 1) := by decide +kernel
theorem dX7_makePlan_42 : decode cX7_makePlan 42 = .ok (.invokevirtual 247, 3) := by decide +kernel
theorem dX7_makePlan_45 : decode cX7_makePlan 45 = .ok (.ifCond .eq 32, 3) := by decide +kernel
theorem dX7_makePlan_48 : decode cX7_makePlan 48 = .ok (.aload_n 0, 1) := by decide +kernel
theorem dX7_makePlan_49 : decode cX7_makePlan 49 = .ok (.getfield 30, 3) := by decide +kernel
theorem dX7_makePlan_52 : decode cX7_makePlan 52 = .ok (.iload_n 3, 1) := by decide +kernel
theorem dX7_makePlan_53 : decode cX7_makePlan 53 = .ok (.aaload, 1) := by decide +kernel
theorem dX7_makePlan_54 : decode cX7_makePlan 54 = .ok (.invokevirtual 236, 3) := by decide +kernel
theorem dX7_makePlan_57 : decode cX7_makePlan 57 = .ok (.aload_n 2, 1) := by decide +kernel
theorem dX7_makePlan_58 : decode cX7_makePlan 58 = .ok (.getfield 331, 3) := by decide +kernel
theorem dX7_makePlan_61 : decode cX7_makePlan 61 = .ok (.if_icmp .gt 16, 3) := by decide +kernel
theorem dX7_makePlan_64 : decode cX7_makePlan 64 = .ok (.aload_n 0, 1) := by decide +kernel
theorem dX7_makePlan_65 : decode cX7_makePlan 65 = .ok (.getfield 75, 3) := by decide +kernel
theorem dX7_makePlan_68 : decode cX7_makePlan 68 = .ok (.aload_n 0, 1) := by decide +kernel
theorem dX7_makePlan_69 : decode cX7_makePlan 69 = .ok (.getfield 30, 3) := by decide +kernel
theorem dX7_makePlan_72 : decode cX7_makePlan 72 = .ok (.iload_n 3, 1) := by decide +kernel
theorem dX7_makePlan_73 : decode cX7_makePlan 73 = .ok (.aaload, 1) := by decide +kernel
theorem dX7_makePlan_74 : decode cX7_makePlan 74 = .ok (.invokevirtual 334, 3) := by decide +kernel
theorem dX7_makePlan_77 : decode cX7_makePlan 77 = .ok (.iinc 3 1, 3) := by decide +kernel
theorem dX7_makePlan_80 : decode cX7_makePlan 80 = .ok (.goto (-53), 3) := by decide +kernel
theorem dX7_makePlan_83 : decode cX7_makePlan 83 = .ok (.aload_n 0, 1) := by decide +kernel
theorem dX7_makePlan_84 : decode cX7_makePlan 84 = .ok (.getfield 75, 3) := by decide +kernel
theorem dX7_makePlan_87 : decode cX7_makePlan 87 = .ok (.aload_n 2, 1) := by decide +kernel
theorem dX7_makePlan_88 : decode cX7_makePlan 88 = .ok (.aload_n 0, 1) := by decide +kernel
theorem dX7_makePlan_89 : decode cX7_makePlan 89 = .ok (.getfield 79, 3) := by decide +kernel
theorem dX7_makePlan_92 : decode cX7_makePlan 92 = .ok (.invokevirtual 337, 3) := by decide +kernel
theorem dX7_makePlan_95 : decode cX7_makePlan 95 = .ok (.return_, 1) := by decide +kernel
theorem dX7_told_0 : decode cX7_told 0 = .ok (.aload_n 0, 1) := by decide +kernel
theorem dX7_told_1 : decode cX7_told 1 = .ok (.iload_n 1, 1) := by decide +kernel
theorem dX7_told_2 : decode cX7_told 2 = .ok (.invokevirtual 124, 3) := by decide +kernel
theorem dX7_told_5 : decode cX7_told 5 = .ok (.astore_n 3, 1) := by decide +kernel
theorem dX7_told_6 : decode cX7_told 6 = .ok (.aload_n 3, 1) := by decide +kernel
theorem dX7_told_7 : decode cX7_told 7 = .ok (.ifnonnull 5, 3) := by decide +kernel
theorem dX7_told_10 : decode cX7_told 10 = .ok (.iconst (-1), 1) := by decide +kernel
theorem dX7_told_11 : decode cX7_told 11 = .ok (.ireturn, 1) := by decide +kernel
theorem dX7_told_12 : decode cX7_told 12 = .ok (.iload_n 2, 1) := by decide +kernel
theorem dX7_told_13 : decode cX7_told 13 = .ok (.tableswitch 104 0 7 #[47, 52, 57, 62, 67, 72, 80, 99], 47) := by decide +kernel
theorem dX7_told_60 : decode cX7_told 60 = .ok (.aload_n 3, 1) := by decide +kernel
theorem dX7_told_61 : decode cX7_told 61 = .ok (.getfield 121, 3) := by decide +kernel
theorem dX7_told_64 : decode cX7_told 64 = .ok (.ireturn, 1) := by decide +kernel
theorem dX7_told_65 : decode cX7_told 65 = .ok (.aload_n 3, 1) := by decide +kernel
theorem dX7_told_66 : decode cX7_told 66 = .ok (.getfield 264, 3) := by decide +kernel
theorem dX7_told_69 : decode cX7_told 69 = .ok (.ireturn, 1) := by decide +kernel
theorem dX7_told_70 : decode cX7_told 70 = .ok (.aload_n 3, 1) := by decide +kernel
theorem dX7_told_71 : decode cX7_told 71 = .ok (.getfield 308, 3) := by decide +kernel
theorem dX7_told_74 : decode cX7_told 74 = .ok (.ireturn, 1) := by decide +kernel
theorem dX7_told_75 : decode cX7_told 75 = .ok (.aload_n 3, 1) := by decide +kernel
theorem dX7_told_76 : decode cX7_told 76 = .ok (.getfield 311, 3) := by decide +kernel
theorem dX7_told_79 : decode cX7_told 79 = .ok (.ireturn, 1) := by decide +kernel
theorem dX7_told_80 : decode cX7_told 80 = .ok (.aload_n 3, 1) := by decide +kernel
theorem dX7_told_81 : decode cX7_told 81 = .ok (.invokevirtual 340, 3) := by decide +kernel
theorem dX7_told_84 : decode cX7_told 84 = .ok (.ireturn, 1) := by decide +kernel
theorem dX7_told_85 : decode cX7_told 85 = .ok (.aload_n 3, 1) := by decide +kernel
theorem dX7_told_86 : decode cX7_told 86 = .ok (.getfield 128, 3) := by decide +kernel
theorem dX7_told_89 : decode cX7_told 89 = .ok (.invokestatic 341, 3) := by decide +kernel
theorem dX7_told_92 : decode cX7_told 92 = .ok (.ireturn, 1) := by decide +kernel
theorem dX7_told_93 : decode cX7_told 93 = .ok (.aload_n 3, 1) := by decide +kernel
theorem dX7_told_94 : decode cX7_told 94 = .ok (.getfield 344, 3) := by decide +kernel
theorem dX7_told_97 : decode cX7_told 97 = .ok (.ifnonnull 7, 3) := by decide +kernel
theorem dX7_told_100 : decode cX7_told 100 = .ok (.iconst (-1), 1) := by decide +kernel
theorem dX7_told_101 : decode cX7_told 101 = .ok (.goto 10, 3) := by decide +kernel
theorem dX7_told_104 : decode cX7_told 104 = .ok (.aload_n 3, 1) := by decide +kernel
theorem dX7_told_105 : decode cX7_told 105 = .ok (.getfield 344, 3) := by decide +kernel
theorem dX7_told_108 : decode cX7_told 108 = .ok (.getfield 154, 3) := by decide +kernel
theorem dX7_told_111 : decode cX7_told 111 = .ok (.ireturn, 1) := by decide +kernel
theorem dX7_told_112 : decode cX7_told 112 = .ok (.aload_n 3, 1) := by decide +kernel
theorem dX7_told_113 : decode cX7_told 113 = .ok (.getfield 314, 3) := by decide +kernel
theorem dX7_told_116 : decode cX7_told 116 = .ok (.ireturn, 1) := by decide +kernel
theorem dX7_told_117 : decode cX7_told 117 = .ok (.iconst (-1), 1) := by decide +kernel
theorem dX7_told_118 : decode cX7_told 118 = .ok (.ireturn, 1) := by decide +kernel
theorem dX7_raft_0 : decode cX7_raft 0 = .ok (.aload_n 0, 1) := by decide +kernel
theorem dX7_raft_1 : decode cX7_raft 1 = .ok (.iload_n 1, 1) := by decide +kernel
theorem dX7_raft_2 : decode cX7_raft 2 = .ok (.invokevirtual 190, 3) := by decide +kernel
theorem dX7_raft_5 : decode cX7_raft 5 = .ok (.astore_n 3, 1) := by decide +kernel
theorem dX7_raft_6 : decode cX7_raft 6 = .ok (.aload_n 3, 1) := by decide +kernel
theorem dX7_raft_7 : decode cX7_raft 7 = .ok (.ifnonnull 5, 3) := by decide +kernel
theorem dX7_raft_10 : decode cX7_raft 10 = .ok (.iconst (-1), 1) := by decide +kernel
theorem dX7_raft_11 : decode cX7_raft 11 = .ok (.ireturn, 1) := by decide +kernel
theorem dX7_raft_12 : decode cX7_raft 12 = .ok (.iload_n 2, 1) := by decide +kernel
theorem dX7_raft_13 : decode cX7_raft 13 = .ok (.tableswitch 95 0 6 #[43, 48, 56, 61, 66, 71, 90], 43) := by decide +kernel
theorem dX7_raft_56 : decode cX7_raft 56 = .ok (.aload_n 3, 1) := by decide +kernel
theorem dX7_raft_57 : decode cX7_raft 57 = .ok (.invokevirtual 193, 3) := by decide +kernel
theorem dX7_raft_60 : decode cX7_raft 60 = .ok (.ireturn, 1) := by decide +kernel
theorem dX7_raft_61 : decode cX7_raft 61 = .ok (.aload_n 3, 1) := by decide +kernel
theorem dX7_raft_62 : decode cX7_raft 62 = .ok (.getfield 159, 3) := by decide +kernel
theorem dX7_raft_65 : decode cX7_raft 65 = .ok (.invokestatic 341, 3) := by decide +kernel
theorem dX7_raft_68 : decode cX7_raft 68 = .ok (.ireturn, 1) := by decide +kernel
theorem dX7_raft_69 : decode cX7_raft 69 = .ok (.aload_n 3, 1) := by decide +kernel
theorem dX7_raft_70 : decode cX7_raft 70 = .ok (.getfield 160, 3) := by decide +kernel
theorem dX7_raft_73 : decode cX7_raft 73 = .ok (.ireturn, 1) := by decide +kernel
theorem dX7_raft_74 : decode cX7_raft 74 = .ok (.aload_n 3, 1) := by decide +kernel
theorem dX7_raft_75 : decode cX7_raft 75 = .ok (.invokevirtual 259, 3) := by decide +kernel
theorem dX7_raft_78 : decode cX7_raft 78 = .ok (.ireturn, 1) := by decide +kernel
theorem dX7_raft_79 : decode cX7_raft 79 = .ok (.aload_n 3, 1) := by decide +kernel
theorem dX7_raft_80 : decode cX7_raft 80 = .ok (.invokevirtual 345, 3) := by decide +kernel
theorem dX7_raft_83 : decode cX7_raft 83 = .ok (.ireturn, 1) := by decide +kernel
theorem dX7_raft_84 : decode cX7_raft 84 = .ok (.aload_n 3, 1) := by decide +kernel
theorem dX7_raft_85 : decode cX7_raft 85 = .ok (.getfield 348, 3) := by decide +kernel
theorem dX7_raft_88 : decode cX7_raft 88 = .ok (.ifnonnull 7, 3) := by decide +kernel
theorem dX7_raft_91 : decode cX7_raft 91 = .ok (.iconst (-1), 1) := by decide +kernel
theorem dX7_raft_92 : decode cX7_raft 92 = .ok (.goto 10, 3) := by decide +kernel
theorem dX7_raft_95 : decode cX7_raft 95 = .ok (.aload_n 3, 1) := by decide +kernel
theorem dX7_raft_96 : decode cX7_raft 96 = .ok (.getfield 348, 3) := by decide +kernel
theorem dX7_raft_99 : decode cX7_raft 99 = .ok (.getfield 174, 3) := by decide +kernel
theorem dX7_raft_102 : decode cX7_raft 102 = .ok (.ireturn, 1) := by decide +kernel
theorem dX7_raft_103 : decode cX7_raft 103 = .ok (.aload_n 3, 1) := by decide +kernel
theorem dX7_raft_104 : decode cX7_raft 104 = .ok (.getfield 352, 3) := by decide +kernel
theorem dX7_raft_107 : decode cX7_raft 107 = .ok (.ireturn, 1) := by decide +kernel
theorem dX7_raft_108 : decode cX7_raft 108 = .ok (.iconst (-1), 1) := by decide +kernel
theorem dX7_raft_109 : decode cX7_raft 109 = .ok (.ireturn, 1) := by decide +kernel
theorem dX7_crewed_0 : decode cX7_crewed 0 = .ok (.aload_n 0, 1) := by decide +kernel
theorem dX7_crewed_1 : decode cX7_crewed 1 = .ok (.iload_n 1, 1) := by decide +kernel
theorem dX7_crewed_2 : decode cX7_crewed 2 = .ok (.invokevirtual 175, 3) := by decide +kernel
theorem dX7_crewed_5 : decode cX7_crewed 5 = .ok (.astore_n 3, 1) := by decide +kernel
theorem dX7_crewed_6 : decode cX7_crewed 6 = .ok (.aload_n 3, 1) := by decide +kernel
theorem dX7_crewed_7 : decode cX7_crewed 7 = .ok (.ifnonnull 5, 3) := by decide +kernel
theorem dX7_crewed_10 : decode cX7_crewed 10 = .ok (.iconst (-1), 1) := by decide +kernel
theorem dX7_crewed_11 : decode cX7_crewed 11 = .ok (.ireturn, 1) := by decide +kernel
theorem dX7_crewed_12 : decode cX7_crewed 12 = .ok (.iload_n 2, 1) := by decide +kernel
theorem dX7_crewed_13 : decode cX7_crewed 13 = .ok (.tableswitch 66 0 3 #[31, 36, 44, 49], 31) := by decide +kernel
theorem dX7_crewed_44 : decode cX7_crewed 44 = .ok (.aload_n 3, 1) := by decide +kernel
theorem dX7_crewed_45 : decode cX7_crewed 45 = .ok (.invokevirtual 355, 3) := by decide +kernel
theorem dX7_crewed_48 : decode cX7_crewed 48 = .ok (.ireturn, 1) := by decide +kernel
theorem dX7_crewed_49 : decode cX7_crewed 49 = .ok (.aload_n 3, 1) := by decide +kernel
theorem dX7_crewed_50 : decode cX7_crewed 50 = .ok (.getfield 182, 3) := by decide +kernel
theorem dX7_crewed_53 : decode cX7_crewed 53 = .ok (.invokestatic 341, 3) := by decide +kernel
theorem dX7_crewed_56 : decode cX7_crewed 56 = .ok (.ireturn, 1) := by decide +kernel
theorem dX7_crewed_57 : decode cX7_crewed 57 = .ok (.aload_n 3, 1) := by decide +kernel
theorem dX7_crewed_58 : decode cX7_crewed 58 = .ok (.getfield 208, 3) := by decide +kernel
theorem dX7_crewed_61 : decode cX7_crewed 61 = .ok (.ireturn, 1) := by decide +kernel
theorem dX7_crewed_62 : decode cX7_crewed 62 = .ok (.aload_n 3, 1) := by decide +kernel
theorem dX7_crewed_63 : decode cX7_crewed 63 = .ok (.aload_n 0, 1) := by decide +kernel
theorem dX7_crewed_64 : decode cX7_crewed 64 = .ok (.getfield 79, 3) := by decide +kernel
theorem dX7_crewed_67 : decode cX7_crewed 67 = .ok (.invokevirtual 183, 3) := by decide +kernel
theorem dX7_crewed_70 : decode cX7_crewed 70 = .ok (.ifCond .eq 7, 3) := by decide +kernel
theorem dX7_crewed_73 : decode cX7_crewed 73 = .ok (.iconst 1, 1) := by decide +kernel
theorem dX7_crewed_74 : decode cX7_crewed 74 = .ok (.goto 4, 3) := by decide +kernel
theorem dX7_crewed_77 : decode cX7_crewed 77 = .ok (.iconst 0, 1) := by decide +kernel
theorem dX7_crewed_78 : decode cX7_crewed 78 = .ok (.ireturn, 1) := by decide +kernel
theorem dX7_crewed_79 : decode cX7_crewed 79 = .ok (.iconst (-1), 1) := by decide +kernel
theorem dX7_crewed_80 : decode cX7_crewed 80 = .ok (.ireturn, 1) := by decide +kernel
theorem dX7_count_0 : decode cX7_count 0 = .ok (.iload_n 1, 1) := by decide +kernel
theorem dX7_count_1 : decode cX7_count 1 = .ok (.tableswitch 87 0 7 #[47, 52, 57, 62, 67, 72, 77, 82], 47) := by decide +kernel
theorem dX7_count_48 : decode cX7_count 48 = .ok (.aload_n 0, 1) := by decide +kernel
theorem dX7_count_49 : decode cX7_count 49 = .ok (.getfield 79, 3) := by decide +kernel
theorem dX7_count_52 : decode cX7_count 52 = .ok (.ireturn, 1) := by decide +kernel
theorem dX7_count_53 : decode cX7_count 53 = .ok (.aload_n 0, 1) := by decide +kernel
theorem dX7_count_54 : decode cX7_count 54 = .ok (.getfield 15, 3) := by decide +kernel
theorem dX7_count_57 : decode cX7_count 57 = .ok (.ireturn, 1) := by decide +kernel
theorem dX7_count_58 : decode cX7_count 58 = .ok (.aload_n 0, 1) := by decide +kernel
theorem dX7_count_59 : decode cX7_count 59 = .ok (.getfield 25, 3) := by decide +kernel
theorem dX7_count_62 : decode cX7_count 62 = .ok (.ireturn, 1) := by decide +kernel
theorem dX7_count_63 : decode cX7_count 63 = .ok (.aload_n 0, 1) := by decide +kernel
theorem dX7_count_64 : decode cX7_count 64 = .ok (.getfield 34, 3) := by decide +kernel
theorem dX7_count_67 : decode cX7_count 67 = .ok (.ireturn, 1) := by decide +kernel
theorem dX7_count_68 : decode cX7_count 68 = .ok (.aload_n 0, 1) := by decide +kernel
theorem dX7_count_69 : decode cX7_count 69 = .ok (.getfield 43, 3) := by decide +kernel
theorem dX7_count_72 : decode cX7_count 72 = .ok (.ireturn, 1) := by decide +kernel
theorem dX7_count_73 : decode cX7_count 73 = .ok (.aload_n 0, 1) := by decide +kernel
theorem dX7_count_74 : decode cX7_count 74 = .ok (.getfield 82, 3) := by decide +kernel
theorem dX7_count_77 : decode cX7_count 77 = .ok (.ireturn, 1) := by decide +kernel
theorem dX7_count_78 : decode cX7_count 78 = .ok (.aload_n 0, 1) := by decide +kernel
theorem dX7_count_79 : decode cX7_count 79 = .ok (.getfield 85, 3) := by decide +kernel
theorem dX7_count_82 : decode cX7_count 82 = .ok (.ireturn, 1) := by decide +kernel
theorem dX7_count_83 : decode cX7_count 83 = .ok (.aload_n 0, 1) := by decide +kernel
theorem dX7_count_84 : decode cX7_count 84 = .ok (.getfield 88, 3) := by decide +kernel
theorem dX7_count_87 : decode cX7_count 87 = .ok (.ireturn, 1) := by decide +kernel
theorem dX7_count_88 : decode cX7_count 88 = .ok (.iload_n 1, 1) := by decide +kernel
theorem dX7_count_89 : decode cX7_count 89 = .ok (.bipush 100, 2) := by decide +kernel
theorem dX7_count_91 : decode cX7_count 91 = .ok (.if_icmp .ge 7, 3) := by decide +kernel
theorem dX7_count_94 : decode cX7_count 94 = .ok (.iconst (-1), 1) := by decide +kernel
theorem dX7_count_95 : decode cX7_count 95 = .ok (.goto 11, 3) := by decide +kernel
theorem dX7_count_98 : decode cX7_count 98 = .ok (.aload_n 0, 1) := by decide +kernel
theorem dX7_count_99 : decode cX7_count 99 = .ok (.iload_n 1, 1) := by decide +kernel
theorem dX7_count_100 : decode cX7_count 100 = .ok (.bipush 100, 2) := by decide +kernel
theorem dX7_count_102 : decode cX7_count 102 = .ok (.isub, 1) := by decide +kernel
theorem dX7_count_103 : decode cX7_count 103 = .ok (.invokevirtual 356, 3) := by decide +kernel
theorem dX7_count_106 : decode cX7_count 106 = .ok (.ireturn, 1) := by decide +kernel
theorem dX7_within_0 : decode cX7_within 0 = .ok (.iload_n 0, 1) := by decide +kernel
theorem dX7_within_1 : decode cX7_within 1 = .ok (.iload_n 1, 1) := by decide +kernel
theorem dX7_within_2 : decode cX7_within 2 = .ok (.if_icmp .lt 12, 3) := by decide +kernel
theorem dX7_within_5 : decode cX7_within 5 = .ok (.iload_n 0, 1) := by decide +kernel
theorem dX7_within_6 : decode cX7_within 6 = .ok (.iload_n 2, 1) := by decide +kernel
theorem dX7_within_7 : decode cX7_within 7 = .ok (.if_icmp .gt 7, 3) := by decide +kernel
theorem dX7_within_10 : decode cX7_within 10 = .ok (.iconst 1, 1) := by decide +kernel
theorem dX7_within_11 : decode cX7_within 11 = .ok (.goto 4, 3) := by decide +kernel
theorem dX7_within_14 : decode cX7_within 14 = .ok (.iconst 0, 1) := by decide +kernel
theorem dX7_within_15 : decode cX7_within 15 = .ok (.ireturn, 1) := by decide +kernel
theorem dX7_isOwner_0 : decode cX7_isOwner 0 = .ok (.iload_n 0, 1) := by decide +kernel
theorem dX7_isOwner_1 : decode cX7_isOwner 1 = .ok (.iconst 0, 1) := by decide +kernel
theorem dX7_isOwner_2 : decode cX7_isOwner 2 = .ok (.bipush 7, 2) := by decide +kernel
theorem dX7_isOwner_4 : decode cX7_isOwner 4 = .ok (.invokestatic 109, 3) := by decide +kernel
theorem dX7_isOwner_7 : decode cX7_isOwner 7 = .ok (.ireturn, 1) := by decide +kernel
theorem dX7_numberOf_0 : decode cX7_numberOf 0 = .ok (.aload_n 0, 1) := by decide +kernel
theorem dX7_numberOf_1 : decode cX7_numberOf 1 = .ok (.ifnonnull 7, 3) := by decide +kernel
theorem dX7_numberOf_4 : decode cX7_numberOf 4 = .ok (.iconst (-1), 1) := by decide +kernel
theorem dX7_numberOf_5 : decode cX7_numberOf 5 = .ok (.goto 7, 3) := by decide +kernel
theorem dX7_numberOf_8 : decode cX7_numberOf 8 = .ok (.aload_n 0, 1) := by decide +kernel
theorem dX7_numberOf_9 : decode cX7_numberOf 9 = .ok (.getfield 102, 3) := by decide +kernel
theorem dX7_numberOf_12 : decode cX7_numberOf 12 = .ok (.ireturn, 1) := by decide +kernel
theorem dX7_marketOf_0 : decode cX7_marketOf 0 = .ok (.aload_n 0, 1) := by decide +kernel
theorem dX7_marketOf_1 : decode cX7_marketOf 1 = .ok (.getfield 102, 3) := by decide +kernel
theorem dX7_marketOf_4 : decode cX7_marketOf 4 = .ok (.iconst 4, 1) := by decide +kernel
theorem dX7_marketOf_5 : decode cX7_marketOf 5 = .ok (.imul, 1) := by decide +kernel
theorem dX7_marketOf_6 : decode cX7_marketOf 6 = .ok (.iload_n 1, 1) := by decide +kernel
theorem dX7_marketOf_7 : decode cX7_marketOf 7 = .ok (.iadd, 1) := by decide +kernel
theorem dX7_marketOf_8 : decode cX7_marketOf 8 = .ok (.ireturn, 1) := by decide +kernel
theorem dX7_today_0 : decode cX7_today 0 = .ok (.aload_n 0, 1) := by decide +kernel
theorem dX7_today_1 : decode cX7_today 1 = .ok (.getfield 79, 3) := by decide +kernel
theorem dX7_today_4 : decode cX7_today 4 = .ok (.bipush 24, 2) := by decide +kernel
theorem dX7_today_6 : decode cX7_today 6 = .ok (.idiv, 1) := by decide +kernel
theorem dX7_today_7 : decode cX7_today 7 = .ok (.ireturn, 1) := by decide +kernel
theorem dX7_pondOf_0 : decode cX7_pondOf 0 = .ok (.aload_n 0, 1) := by decide +kernel
theorem dX7_pondOf_1 : decode cX7_pondOf 1 = .ok (.iload_n 1, 1) := by decide +kernel
theorem dX7_pondOf_2 : decode cX7_pondOf 2 = .ok (.invokevirtual 94, 3) := by decide +kernel
theorem dX7_pondOf_5 : decode cX7_pondOf 5 = .ok (.astore_n 2, 1) := by decide +kernel
theorem dX7_pondOf_6 : decode cX7_pondOf 6 = .ok (.aload_n 2, 1) := by decide +kernel
theorem dX7_pondOf_7 : decode cX7_pondOf 7 = .ok (.ifnonnull 7, 3) := by decide +kernel
theorem dX7_pondOf_10 : decode cX7_pondOf 10 = .ok (.iconst (-1), 1) := by decide +kernel
theorem dX7_pondOf_11 : decode cX7_pondOf 11 = .ok (.goto 7, 3) := by decide +kernel
theorem dX7_pondOf_14 : decode cX7_pondOf 14 = .ok (.aload_n 2, 1) := by decide +kernel
theorem dX7_pondOf_15 : decode cX7_pondOf 15 = .ok (.getfield 233, 3) := by decide +kernel
theorem dX7_pondOf_18 : decode cX7_pondOf 18 = .ok (.ireturn, 1) := by decide +kernel
theorem dX7_stationAt_0 : decode cX7_stationAt 0 = .ok (.iload_n 1, 1) := by decide +kernel
theorem dX7_stationAt_1 : decode cX7_stationAt 1 = .ok (.iconst 0, 1) := by decide +kernel
theorem dX7_stationAt_2 : decode cX7_stationAt 2 = .ok (.aload_n 0, 1) := by decide +kernel
theorem dX7_stationAt_3 : decode cX7_stationAt 3 = .ok (.getfield 15, 3) := by decide +kernel
theorem dX7_stationAt_6 : decode cX7_stationAt 6 = .ok (.iconst 1, 1) := by decide +kernel
theorem dX7_stationAt_7 : decode cX7_stationAt 7 = .ok (.isub, 1) := by decide +kernel
theorem dX7_stationAt_8 : decode cX7_stationAt 8 = .ok (.invokestatic 109, 3) := by decide +kernel
theorem dX7_stationAt_11 : decode cX7_stationAt 11 = .ok (.ifCond .eq 12, 3) := by decide +kernel
theorem dX7_stationAt_14 : decode cX7_stationAt 14 = .ok (.aload_n 0, 1) := by decide +kernel
theorem dX7_stationAt_15 : decode cX7_stationAt 15 = .ok (.getfield 11, 3) := by decide +kernel
theorem dX7_stationAt_18 : decode cX7_stationAt 18 = .ok (.iload_n 1, 1) := by decide +kernel
theorem dX7_stationAt_19 : decode cX7_stationAt 19 = .ok (.aaload, 1) := by decide +kernel
theorem dX7_stationAt_20 : decode cX7_stationAt 20 = .ok (.goto 4, 3) := by decide +kernel
theorem dX7_stationAt_23 : decode cX7_stationAt 23 = .ok (.aconst_null, 1) := by decide +kernel
theorem dX7_stationAt_24 : decode cX7_stationAt 24 = .ok (.areturn, 1) := by decide +kernel
theorem dX7_trunkAt_0 : decode cX7_trunkAt 0 = .ok (.iload_n 1, 1) := by decide +kernel
theorem dX7_trunkAt_1 : decode cX7_trunkAt 1 = .ok (.iconst 0, 1) := by decide +kernel
theorem dX7_trunkAt_2 : decode cX7_trunkAt 2 = .ok (.aload_n 0, 1) := by decide +kernel
theorem dX7_trunkAt_3 : decode cX7_trunkAt 3 = .ok (.getfield 25, 3) := by decide +kernel
theorem dX7_trunkAt_6 : decode cX7_trunkAt 6 = .ok (.iconst 1, 1) := by decide +kernel
theorem dX7_trunkAt_7 : decode cX7_trunkAt 7 = .ok (.isub, 1) := by decide +kernel
theorem dX7_trunkAt_8 : decode cX7_trunkAt 8 = .ok (.invokestatic 109, 3) := by decide +kernel
theorem dX7_trunkAt_11 : decode cX7_trunkAt 11 = .ok (.ifCond .eq 12, 3) := by decide +kernel
theorem dX7_trunkAt_14 : decode cX7_trunkAt 14 = .ok (.aload_n 0, 1) := by decide +kernel
theorem dX7_trunkAt_15 : decode cX7_trunkAt 15 = .ok (.getfield 21, 3) := by decide +kernel
theorem dX7_trunkAt_18 : decode cX7_trunkAt 18 = .ok (.iload_n 1, 1) := by decide +kernel
theorem dX7_trunkAt_19 : decode cX7_trunkAt 19 = .ok (.aaload, 1) := by decide +kernel
theorem dX7_trunkAt_20 : decode cX7_trunkAt 20 = .ok (.goto 4, 3) := by decide +kernel
theorem dX7_trunkAt_23 : decode cX7_trunkAt 23 = .ok (.aconst_null, 1) := by decide +kernel
theorem dX7_trunkAt_24 : decode cX7_trunkAt 24 = .ok (.areturn, 1) := by decide +kernel
theorem dX7_raftAt_0 : decode cX7_raftAt 0 = .ok (.iload_n 1, 1) := by decide +kernel
theorem dX7_raftAt_1 : decode cX7_raftAt 1 = .ok (.iconst 0, 1) := by decide +kernel
theorem dX7_raftAt_2 : decode cX7_raftAt 2 = .ok (.aload_n 0, 1) := by decide +kernel
theorem dX7_raftAt_3 : decode cX7_raftAt 3 = .ok (.getfield 34, 3) := by decide +kernel
theorem dX7_raftAt_6 : decode cX7_raftAt 6 = .ok (.iconst 1, 1) := by decide +kernel
theorem dX7_raftAt_7 : decode cX7_raftAt 7 = .ok (.isub, 1) := by decide +kernel
theorem dX7_raftAt_8 : decode cX7_raftAt 8 = .ok (.invokestatic 109, 3) := by decide +kernel
theorem dX7_raftAt_11 : decode cX7_raftAt 11 = .ok (.ifCond .eq 12, 3) := by decide +kernel
theorem dX7_raftAt_14 : decode cX7_raftAt 14 = .ok (.aload_n 0, 1) := by decide +kernel
theorem dX7_raftAt_15 : decode cX7_raftAt 15 = .ok (.getfield 30, 3) := by decide +kernel
theorem dX7_raftAt_18 : decode cX7_raftAt 18 = .ok (.iload_n 1, 1) := by decide +kernel
theorem dX7_raftAt_19 : decode cX7_raftAt 19 = .ok (.aaload, 1) := by decide +kernel
theorem dX7_raftAt_20 : decode cX7_raftAt 20 = .ok (.goto 4, 3) := by decide +kernel
theorem dX7_raftAt_23 : decode cX7_raftAt 23 = .ok (.aconst_null, 1) := by decide +kernel
theorem dX7_raftAt_24 : decode cX7_raftAt 24 = .ok (.areturn, 1) := by decide +kernel
theorem dX7_tiedAt_0 : decode cX7_tiedAt 0 = .ok (.aload_n 0, 1) := by decide +kernel
theorem dX7_tiedAt_1 : decode cX7_tiedAt 1 = .ok (.iload_n 1, 1) := by decide +kernel
theorem dX7_tiedAt_2 : decode cX7_tiedAt 2 = .ok (.invokevirtual 190, 3) := by decide +kernel
theorem dX7_tiedAt_5 : decode cX7_tiedAt 5 = .ok (.astore_n 2, 1) := by decide +kernel
theorem dX7_tiedAt_6 : decode cX7_tiedAt 6 = .ok (.aload_n 2, 1) := by decide +kernel
theorem dX7_tiedAt_7 : decode cX7_tiedAt 7 = .ok (.ifnull 14, 3) := by decide +kernel
theorem dX7_tiedAt_10 : decode cX7_tiedAt 10 = .ok (.aload_n 2, 1) := by decide +kernel
theorem dX7_tiedAt_11 : decode cX7_tiedAt 11 = .ok (.invokevirtual 193, 3) := by decide +kernel
theorem dX7_tiedAt_14 : decode cX7_tiedAt 14 = .ok (.ifCond .ne 7, 3) := by decide +kernel
theorem dX7_tiedAt_17 : decode cX7_tiedAt 17 = .ok (.aload_n 2, 1) := by decide +kernel
theorem dX7_tiedAt_18 : decode cX7_tiedAt 18 = .ok (.goto 4, 3) := by decide +kernel
theorem dX7_tiedAt_21 : decode cX7_tiedAt 21 = .ok (.aconst_null, 1) := by decide +kernel
theorem dX7_tiedAt_22 : decode cX7_tiedAt 22 = .ok (.areturn, 1) := by decide +kernel
theorem dX7_crewAt_0 : decode cX7_crewAt 0 = .ok (.iload_n 1, 1) := by decide +kernel
theorem dX7_crewAt_1 : decode cX7_crewAt 1 = .ok (.iconst 0, 1) := by decide +kernel
theorem dX7_crewAt_2 : decode cX7_crewAt 2 = .ok (.aload_n 0, 1) := by decide +kernel
theorem dX7_crewAt_3 : decode cX7_crewAt 3 = .ok (.getfield 43, 3) := by decide +kernel
theorem dX7_crewAt_6 : decode cX7_crewAt 6 = .ok (.iconst 1, 1) := by decide +kernel
theorem dX7_crewAt_7 : decode cX7_crewAt 7 = .ok (.isub, 1) := by decide +kernel
theorem dX7_crewAt_8 : decode cX7_crewAt 8 = .ok (.invokestatic 109, 3) := by decide +kernel
theorem dX7_crewAt_11 : decode cX7_crewAt 11 = .ok (.ifCond .eq 12, 3) := by decide +kernel
theorem dX7_crewAt_14 : decode cX7_crewAt 14 = .ok (.aload_n 0, 1) := by decide +kernel
theorem dX7_crewAt_15 : decode cX7_crewAt 15 = .ok (.getfield 39, 3) := by decide +kernel
theorem dX7_crewAt_18 : decode cX7_crewAt 18 = .ok (.iload_n 1, 1) := by decide +kernel
theorem dX7_crewAt_19 : decode cX7_crewAt 19 = .ok (.aaload, 1) := by decide +kernel
theorem dX7_crewAt_20 : decode cX7_crewAt 20 = .ok (.goto 4, 3) := by decide +kernel
theorem dX7_crewAt_23 : decode cX7_crewAt 23 = .ok (.aconst_null, 1) := by decide +kernel
theorem dX7_crewAt_24 : decode cX7_crewAt 24 = .ok (.areturn, 1) := by decide +kernel
theorem dX7_newRaft_0 : decode cX7_newRaft 0 = .ok (.new 28, 3) := by decide +kernel
theorem dX7_newRaft_3 : decode cX7_newRaft 3 = .ok (.dup, 1) := by decide +kernel
theorem dX7_newRaft_4 : decode cX7_newRaft 4 = .ok (.aload_n 0, 1) := by decide +kernel
theorem dX7_newRaft_5 : decode cX7_newRaft 5 = .ok (.getfield 34, 3) := by decide +kernel
theorem dX7_newRaft_8 : decode cX7_newRaft 8 = .ok (.aload_n 1, 1) := by decide +kernel
theorem dX7_newRaft_9 : decode cX7_newRaft 9 = .ok (.invokespecial 359, 3) := by decide +kernel
theorem dX7_newRaft_12 : decode cX7_newRaft 12 = .ok (.astore_n 2, 1) := by decide +kernel
theorem dX7_newRaft_13 : decode cX7_newRaft 13 = .ok (.aload_n 0, 1) := by decide +kernel
theorem dX7_newRaft_14 : decode cX7_newRaft 14 = .ok (.getfield 30, 3) := by decide +kernel
theorem dX7_newRaft_17 : decode cX7_newRaft 17 = .ok (.aload_n 0, 1) := by decide +kernel
theorem dX7_newRaft_18 : decode cX7_newRaft 18 = .ok (.getfield 34, 3) := by decide +kernel
theorem dX7_newRaft_21 : decode cX7_newRaft 21 = .ok (.aload_n 2, 1) := by decide +kernel
theorem dX7_newRaft_22 : decode cX7_newRaft 22 = .ok (.aastore, 1) := by decide +kernel
theorem dX7_newRaft_23 : decode cX7_newRaft 23 = .ok (.aload_n 0, 1) := by decide +kernel
theorem dX7_newRaft_24 : decode cX7_newRaft 24 = .ok (.dup, 1) := by decide +kernel
theorem dX7_newRaft_25 : decode cX7_newRaft 25 = .ok (.getfield 34, 3) := by decide +kernel
theorem dX7_newRaft_28 : decode cX7_newRaft 28 = .ok (.iconst 1, 1) := by decide +kernel
theorem dX7_newRaft_29 : decode cX7_newRaft 29 = .ok (.iadd, 1) := by decide +kernel
theorem dX7_newRaft_30 : decode cX7_newRaft 30 = .ok (.putfield 34, 3) := by decide +kernel
theorem dX7_newRaft_33 : decode cX7_newRaft 33 = .ok (.aload_n 2, 1) := by decide +kernel
theorem dX7_newRaft_34 : decode cX7_newRaft 34 = .ok (.areturn, 1) := by decide +kernel
theorem dX8_init_0 : decode cX8_init 0 = .ok (.aload_n 0, 1) := by decide +kernel
theorem dX8_init_1 : decode cX8_init 1 = .ok (.invokespecial 1, 3) := by decide +kernel
theorem dX8_init_4 : decode cX8_init 4 = .ok (.aload_n 0, 1) := by decide +kernel
theorem dX8_init_5 : decode cX8_init 5 = .ok (.bipush 12, 2) := by decide +kernel
theorem dX8_init_7 : decode cX8_init 7 = .ok (.newarray .int, 2) := by decide +kernel
theorem dX8_init_9 : decode cX8_init 9 = .ok (.putfield 9, 3) := by decide +kernel
theorem dX8_init_12 : decode cX8_init 12 = .ok (.aload_n 0, 1) := by decide +kernel
theorem dX8_init_13 : decode cX8_init 13 = .ok (.bipush 12, 2) := by decide +kernel
theorem dX8_init_15 : decode cX8_init 15 = .ok (.newarray .int, 2) := by decide +kernel
theorem dX8_init_17 : decode cX8_init 17 = .ok (.putfield 13, 3) := by decide +kernel
theorem dX8_init_20 : decode cX8_init 20 = .ok (.aload_n 0, 1) := by decide +kernel
theorem dX8_init_21 : decode cX8_init 21 = .ok (.bipush 12, 2) := by decide +kernel
theorem dX8_init_23 : decode cX8_init 23 = .ok (.newarray .int, 2) := by decide +kernel
theorem dX8_init_25 : decode cX8_init 25 = .ok (.putfield 16, 3) := by decide +kernel
theorem dX8_init_28 : decode cX8_init 28 = .ok (.aload_n 0, 1) := by decide +kernel
theorem dX8_init_29 : decode cX8_init 29 = .ok (.bipush 12, 2) := by decide +kernel
theorem dX8_init_31 : decode cX8_init 31 = .ok (.newarray .int, 2) := by decide +kernel
theorem dX8_init_33 : decode cX8_init 33 = .ok (.putfield 19, 3) := by decide +kernel
theorem dX8_init_36 : decode cX8_init 36 = .ok (.aload_n 0, 1) := by decide +kernel
theorem dX8_init_37 : decode cX8_init 37 = .ok (.bipush 12, 2) := by decide +kernel
theorem dX8_init_39 : decode cX8_init 39 = .ok (.newarray .int, 2) := by decide +kernel
theorem dX8_init_41 : decode cX8_init 41 = .ok (.putfield 22, 3) := by decide +kernel
theorem dX8_init_44 : decode cX8_init 44 = .ok (.aload_n 0, 1) := by decide +kernel
theorem dX8_init_45 : decode cX8_init 45 = .ok (.bipush 12, 2) := by decide +kernel
theorem dX8_init_47 : decode cX8_init 47 = .ok (.newarray .int, 2) := by decide +kernel
theorem dX8_init_49 : decode cX8_init 49 = .ok (.putfield 25, 3) := by decide +kernel
theorem dX8_init_52 : decode cX8_init 52 = .ok (.aload_n 0, 1) := by decide +kernel
theorem dX8_init_53 : decode cX8_init 53 = .ok (.bipush 12, 2) := by decide +kernel
theorem dX8_init_55 : decode cX8_init 55 = .ok (.newarray .boolean, 2) := by decide +kernel
theorem dX8_init_57 : decode cX8_init 57 = .ok (.putfield 28, 3) := by decide +kernel
theorem dX8_init_60 : decode cX8_init 60 = .ok (.aload_n 0, 1) := by decide +kernel
theorem dX8_init_61 : decode cX8_init 61 = .ok (.bipush 12, 2) := by decide +kernel
theorem dX8_init_63 : decode cX8_init 63 = .ok (.newarray .int, 2) := by decide +kernel
theorem dX8_init_65 : decode cX8_init 65 = .ok (.putfield 32, 3) := by decide +kernel
theorem dX8_init_68 : decode cX8_init 68 = .ok (.aload_n 0, 1) := by decide +kernel
theorem dX8_init_69 : decode cX8_init 69 = .ok (.bipush 12, 2) := by decide +kernel
theorem dX8_init_71 : decode cX8_init 71 = .ok (.newarray .int, 2) := by decide +kernel
theorem dX8_init_73 : decode cX8_init 73 = .ok (.putfield 35, 3) := by decide +kernel
theorem dX8_init_76 : decode cX8_init 76 = .ok (.aload_n 0, 1) := by decide +kernel
theorem dX8_init_77 : decode cX8_init 77 = .ok (.bipush 120, 2) := by decide +kernel
theorem dX8_init_79 : decode cX8_init 79 = .ok (.newarray .int, 2) := by decide +kernel
theorem dX8_init_81 : decode cX8_init 81 = .ok (.putfield 38, 3) := by decide +kernel
theorem dX8_init_84 : decode cX8_init 84 = .ok (.aload_n 0, 1) := by decide +kernel
theorem dX8_init_85 : decode cX8_init 85 = .ok (.bipush 120, 2) := by decide +kernel
theorem dX8_init_87 : decode cX8_init 87 = .ok (.newarray .int, 2) := by decide +kernel
theorem dX8_init_89 : decode cX8_init 89 = .ok (.putfield 41, 3) := by decide +kernel
theorem dX8_init_92 : decode cX8_init 92 = .ok (.aload_n 0, 1) := by decide +kernel
theorem dX8_init_93 : decode cX8_init 93 = .ok (.bipush 120, 2) := by decide +kernel
theorem dX8_init_95 : decode cX8_init 95 = .ok (.newarray .int, 2) := by decide +kernel
theorem dX8_init_97 : decode cX8_init 97 = .ok (.putfield 44, 3) := by decide +kernel
theorem dX8_init_100 : decode cX8_init 100 = .ok (.aload_n 0, 1) := by decide +kernel
theorem dX8_init_101 : decode cX8_init 101 = .ok (.bipush 120, 2) := by decide +kernel
theorem dX8_init_103 : decode cX8_init 103 = .ok (.newarray .int, 2) := by decide +kernel
theorem dX8_init_105 : decode cX8_init 105 = .ok (.putfield 47, 3) := by decide +kernel
theorem dX8_init_108 : decode cX8_init 108 = .ok (.aload_n 0, 1) := by decide +kernel
theorem dX8_init_109 : decode cX8_init 109 = .ok (.bipush 120, 2) := by decide +kernel
theorem dX8_init_111 : decode cX8_init 111 = .ok (.newarray .int, 2) := by decide +kernel
theorem dX8_init_113 : decode cX8_init 113 = .ok (.putfield 50, 3) := by decide +kernel
theorem dX8_init_116 : decode cX8_init 116 = .ok (.aload_n 0, 1) := by decide +kernel
theorem dX8_init_117 : decode cX8_init 117 = .ok (.bipush 120, 2) := by decide +kernel
theorem dX8_init_119 : decode cX8_init 119 = .ok (.newarray .int, 2) := by decide +kernel
theorem dX8_init_121 : decode cX8_init 121 = .ok (.putfield 53, 3) := by decide +kernel
theorem dX8_init_124 : decode cX8_init 124 = .ok (.aload_n 0, 1) := by decide +kernel
theorem dX8_init_125 : decode cX8_init 125 = .ok (.bipush 120, 2) := by decide +kernel
theorem dX8_init_127 : decode cX8_init 127 = .ok (.newarray .int, 2) := by decide +kernel
theorem dX8_init_129 : decode cX8_init 129 = .ok (.putfield 56, 3) := by decide +kernel
theorem dX8_init_132 : decode cX8_init 132 = .ok (.aload_n 0, 1) := by decide +kernel
theorem dX8_init_133 : decode cX8_init 133 = .ok (.bipush 120, 2) := by decide +kernel
theorem dX8_init_135 : decode cX8_init 135 = .ok (.newarray .int, 2) := by decide +kernel
theorem dX8_init_137 : decode cX8_init 137 = .ok (.putfield 59, 3) := by decide +kernel
theorem dX8_init_140 : decode cX8_init 140 = .ok (.aload_n 0, 1) := by decide +kernel
theorem dX8_init_141 : decode cX8_init 141 = .ok (.bipush 120, 2) := by decide +kernel
theorem dX8_init_143 : decode cX8_init 143 = .ok (.newarray .int, 2) := by decide +kernel
theorem dX8_init_145 : decode cX8_init 145 = .ok (.putfield 62, 3) := by decide +kernel
theorem dX8_init_148 : decode cX8_init 148 = .ok (.aload_n 0, 1) := by decide +kernel
theorem dX8_init_149 : decode cX8_init 149 = .ok (.bipush 120, 2) := by decide +kernel
theorem dX8_init_151 : decode cX8_init 151 = .ok (.newarray .int, 2) := by decide +kernel
theorem dX8_init_153 : decode cX8_init 153 = .ok (.putfield 65, 3) := by decide +kernel
theorem dX8_init_156 : decode cX8_init 156 = .ok (.aload_n 0, 1) := by decide +kernel
theorem dX8_init_157 : decode cX8_init 157 = .ok (.bipush 9, 2) := by decide +kernel
theorem dX8_init_159 : decode cX8_init 159 = .ok (.newarray .int, 2) := by decide +kernel
theorem dX8_init_161 : decode cX8_init 161 = .ok (.putfield 68, 3) := by decide +kernel
theorem dX8_init_164 : decode cX8_init 164 = .ok (.aload_n 0, 1) := by decide +kernel
theorem dX8_init_165 : decode cX8_init 165 = .ok (.bipush 60, 2) := by decide +kernel
theorem dX8_init_167 : decode cX8_init 167 = .ok (.newarray .int, 2) := by decide +kernel
theorem dX8_init_169 : decode cX8_init 169 = .ok (.putfield 71, 3) := by decide +kernel
theorem dX8_init_172 : decode cX8_init 172 = .ok (.aload_n 0, 1) := by decide +kernel
theorem dX8_init_173 : decode cX8_init 173 = .ok (.bipush 60, 2) := by decide +kernel
theorem dX8_init_175 : decode cX8_init 175 = .ok (.newarray .int, 2) := by decide +kernel
theorem dX8_init_177 : decode cX8_init 177 = .ok (.putfield 74, 3) := by decide +kernel
theorem dX8_init_180 : decode cX8_init 180 = .ok (.aload_n 0, 1) := by decide +kernel
theorem dX8_init_181 : decode cX8_init 181 = .ok (.bipush 60, 2) := by decide +kernel
theorem dX8_init_183 : decode cX8_init 183 = .ok (.newarray .int, 2) := by decide +kernel
theorem dX8_init_185 : decode cX8_init 185 = .ok (.putfield 77, 3) := by decide +kernel
theorem dX8_init_188 : decode cX8_init 188 = .ok (.aload_n 0, 1) := by decide +kernel
theorem dX8_init_189 : decode cX8_init 189 = .ok (.bipush 60, 2) := by decide +kernel
theorem dX8_init_191 : decode cX8_init 191 = .ok (.newarray .int, 2) := by decide +kernel
theorem dX8_init_193 : decode cX8_init 193 = .ok (.putfield 80, 3) := by decide +kernel
theorem dX8_init_196 : decode cX8_init 196 = .ok (.aload_n 0, 1) := by decide +kernel
theorem dX8_init_197 : decode cX8_init 197 = .ok (.bipush 60, 2) := by decide +kernel
theorem dX8_init_199 : decode cX8_init 199 = .ok (.newarray .int, 2) := by decide +kernel
theorem dX8_init_201 : decode cX8_init 201 = .ok (.putfield 83, 3) := by decide +kernel
theorem dX8_init_204 : decode cX8_init 204 = .ok (.aload_n 0, 1) := by decide +kernel
theorem dX8_init_205 : decode cX8_init 205 = .ok (.bipush 10, 2) := by decide +kernel
theorem dX8_init_207 : decode cX8_init 207 = .ok (.newarray .int, 2) := by decide +kernel
theorem dX8_init_209 : decode cX8_init 209 = .ok (.putfield 86, 3) := by decide +kernel
theorem dX8_init_212 : decode cX8_init 212 = .ok (.aload_n 0, 1) := by decide +kernel
theorem dX8_init_213 : decode cX8_init 213 = .ok (.bipush 10, 2) := by decide +kernel
theorem dX8_init_215 : decode cX8_init 215 = .ok (.newarray .int, 2) := by decide +kernel
theorem dX8_init_217 : decode cX8_init 217 = .ok (.putfield 89, 3) := by decide +kernel
theorem dX8_init_220 : decode cX8_init 220 = .ok (.aload_n 0, 1) := by decide +kernel
theorem dX8_init_221 : decode cX8_init 221 = .ok (.bipush 10, 2) := by decide +kernel
theorem dX8_init_223 : decode cX8_init 223 = .ok (.newarray .int, 2) := by decide +kernel
theorem dX8_init_225 : decode cX8_init 225 = .ok (.putfield 92, 3) := by decide +kernel
theorem dX8_init_228 : decode cX8_init 228 = .ok (.aload_n 0, 1) := by decide +kernel
theorem dX8_init_229 : decode cX8_init 229 = .ok (.bipush 10, 2) := by decide +kernel
theorem dX8_init_231 : decode cX8_init 231 = .ok (.newarray .int, 2) := by decide +kernel
theorem dX8_init_233 : decode cX8_init 233 = .ok (.putfield 95, 3) := by decide +kernel
theorem dX8_init_236 : decode cX8_init 236 = .ok (.aload_n 0, 1) := by decide +kernel
theorem dX8_init_237 : decode cX8_init 237 = .ok (.bipush 10, 2) := by decide +kernel
theorem dX8_init_239 : decode cX8_init 239 = .ok (.newarray .int, 2) := by decide +kernel
theorem dX8_init_241 : decode cX8_init 241 = .ok (.putfield 98, 3) := by decide +kernel
theorem dX8_init_244 : decode cX8_init 244 = .ok (.aload_n 0, 1) := by decide +kernel
theorem dX8_init_245 : decode cX8_init 245 = .ok (.bipush 8, 2) := by decide +kernel
theorem dX8_init_247 : decode cX8_init 247 = .ok (.newarray .int, 2) := by decide +kernel
theorem dX8_init_249 : decode cX8_init 249 = .ok (.putfield 101, 3) := by decide +kernel
theorem dX8_init_252 : decode cX8_init 252 = .ok (.aload_n 0, 1) := by decide +kernel
theorem dX8_init_253 : decode cX8_init 253 = .ok (.bipush 8, 2) := by decide +kernel
theorem dX8_init_255 : decode cX8_init 255 = .ok (.newarray .int, 2) := by decide +kernel
theorem dX8_init_257 : decode cX8_init 257 = .ok (.putfield 104, 3) := by decide +kernel
theorem dX8_init_260 : decode cX8_init 260 = .ok (.aload_n 0, 1) := by decide +kernel
theorem dX8_init_261 : decode cX8_init 261 = .ok (.bipush 30, 2) := by decide +kernel
theorem dX8_init_263 : decode cX8_init 263 = .ok (.newarray .int, 2) := by decide +kernel
theorem dX8_init_265 : decode cX8_init 265 = .ok (.putfield 107, 3) := by decide +kernel
theorem dX8_init_268 : decode cX8_init 268 = .ok (.aload_n 0, 1) := by decide +kernel
theorem dX8_init_269 : decode cX8_init 269 = .ok (.bipush 30, 2) := by decide +kernel
theorem dX8_init_271 : decode cX8_init 271 = .ok (.newarray .int, 2) := by decide +kernel
theorem dX8_init_273 : decode cX8_init 273 = .ok (.putfield 110, 3) := by decide +kernel
theorem dX8_init_276 : decode cX8_init 276 = .ok (.aload_n 0, 1) := by decide +kernel
theorem dX8_init_277 : decode cX8_init 277 = .ok (.bipush 100, 2) := by decide +kernel
theorem dX8_init_279 : decode cX8_init 279 = .ok (.newarray .int, 2) := by decide +kernel
theorem dX8_init_281 : decode cX8_init 281 = .ok (.putfield 113, 3) := by decide +kernel
theorem dX8_init_284 : decode cX8_init 284 = .ok (.aload_n 0, 1) := by decide +kernel
theorem dX8_init_285 : decode cX8_init 285 = .ok (.bipush 100, 2) := by decide +kernel
theorem dX8_init_287 : decode cX8_init 287 = .ok (.newarray .int, 2) := by decide +kernel
theorem dX8_init_289 : decode cX8_init 289 = .ok (.putfield 116, 3) := by decide +kernel
theorem dX8_init_292 : decode cX8_init 292 = .ok (.aload_n 0, 1) := by decide +kernel
theorem dX8_init_293 : decode cX8_init 293 = .ok (.bipush 100, 2) := by decide +kernel
theorem dX8_init_295 : decode cX8_init 295 = .ok (.newarray .int, 2) := by decide +kernel
theorem dX8_init_297 : decode cX8_init 297 = .ok (.putfield 119, 3) := by decide +kernel
theorem dX8_init_300 : decode cX8_init 300 = .ok (.aload_n 0, 1) := by decide +kernel
theorem dX8_init_301 : decode cX8_init 301 = .ok (.bipush 100, 2) := by decide +kernel
theorem dX8_init_303 : decode cX8_init 303 = .ok (.newarray .int, 2) := by decide +kernel
theorem dX8_init_305 : decode cX8_init 305 = .ok (.putfield 122, 3) := by decide +kernel
theorem dX8_init_308 : decode cX8_init 308 = .ok (.aload_n 0, 1) := by decide +kernel
theorem dX8_init_309 : decode cX8_init 309 = .ok (.iconst 5, 1) := by decide +kernel
theorem dX8_init_310 : decode cX8_init 310 = .ok (.newarray .int, 2) := by decide +kernel
theorem dX8_init_312 : decode cX8_init 312 = .ok (.putfield 125, 3) := by decide +kernel
theorem dX8_init_315 : decode cX8_init 315 = .ok (.aload_n 0, 1) := by decide +kernel
theorem dX8_init_316 : decode cX8_init 316 = .ok (.iconst 5, 1) := by decide +kernel
theorem dX8_init_317 : decode cX8_init 317 = .ok (.newarray .int, 2) := by decide +kernel
theorem dX8_init_319 : decode cX8_init 319 = .ok (.putfield 128, 3) := by decide +kernel
theorem dX8_init_322 : decode cX8_init 322 = .ok (.aload_n 0, 1) := by decide +kernel
theorem dX8_init_323 : decode cX8_init 323 = .ok (.iconst 5, 1) := by decide +kernel
theorem dX8_init_324 : decode cX8_init 324 = .ok (.newarray .int, 2) := by decide +kernel
theorem dX8_init_326 : decode cX8_init 326 = .ok (.putfield 131, 3) := by decide +kernel
theorem dX8_init_329 : decode cX8_init 329 = .ok (.aload_n 0, 1) := by decide +kernel
theorem dX8_init_330 : decode cX8_init 330 = .ok (.iconst 5, 1) := by decide +kernel
theorem dX8_init_331 : decode cX8_init 331 = .ok (.newarray .int, 2) := by decide +kernel
theorem dX8_init_333 : decode cX8_init 333 = .ok (.putfield 134, 3) := by decide +kernel
theorem dX8_init_336 : decode cX8_init 336 = .ok (.aload_n 0, 1) := by decide +kernel
theorem dX8_init_337 : decode cX8_init 337 = .ok (.iconst 5, 1) := by decide +kernel
theorem dX8_init_338 : decode cX8_init 338 = .ok (.newarray .int, 2) := by decide +kernel
theorem dX8_init_340 : decode cX8_init 340 = .ok (.putfield 137, 3) := by decide +kernel
theorem dX8_init_343 : decode cX8_init 343 = .ok (.iconst 0, 1) := by decide +kernel
theorem dX8_init_344 : decode cX8_init 344 = .ok (.istore_n 1, 1) := by decide +kernel
theorem dX8_init_345 : decode cX8_init 345 = .ok (.iload_n 1, 1) := by decide +kernel
theorem dX8_init_346 : decode cX8_init 346 = .ok (.bipush 8, 2) := by decide +kernel
theorem dX8_init_348 : decode cX8_init 348 = .ok (.if_icmp .ge 16, 3) := by decide +kernel
theorem dX8_init_351 : decode cX8_init 351 = .ok (.aload_n 0, 1) := by decide +kernel
theorem dX8_init_352 : decode cX8_init 352 = .ok (.getfield 101, 3) := by decide +kernel
theorem dX8_init_355 : decode cX8_init 355 = .ok (.iload_n 1, 1) := by decide +kernel
theorem dX8_init_356 : decode cX8_init 356 = .ok (.iconst 5, 1) := by decide +kernel
theorem dX8_init_357 : decode cX8_init 357 = .ok (.iastore, 1) := by decide +kernel
theorem dX8_init_358 : decode cX8_init 358 = .ok (.iinc 1 1, 3) := by decide +kernel
theorem dX8_init_361 : decode cX8_init 361 = .ok (.goto (-16), 3) := by decide +kernel
theorem dX8_init_364 : decode cX8_init 364 = .ok (.return_, 1) := by decide +kernel
theorem dX8_in_0 : decode cX8_in 0 = .ok (.iload_n 0, 1) := by decide +kernel
theorem dX8_in_1 : decode cX8_in 1 = .ok (.iload_n 1, 1) := by decide +kernel
theorem dX8_in_2 : decode cX8_in 2 = .ok (.if_icmp .lt 12, 3) := by decide +kernel
theorem dX8_in_5 : decode cX8_in 5 = .ok (.iload_n 0, 1) := by decide +kernel
theorem dX8_in_6 : decode cX8_in 6 = .ok (.iload_n 2, 1) := by decide +kernel
theorem dX8_in_7 : decode cX8_in 7 = .ok (.if_icmp .gt 7, 3) := by decide +kernel
theorem dX8_in_10 : decode cX8_in 10 = .ok (.iconst 1, 1) := by decide +kernel
theorem dX8_in_11 : decode cX8_in 11 = .ok (.goto 4, 3) := by decide +kernel
theorem dX8_in_14 : decode cX8_in 14 = .ok (.iconst 0, 1) := by decide +kernel
theorem dX8_in_15 : decode cX8_in 15 = .ok (.ireturn, 1) := by decide +kernel
theorem dX8_isStation_0 : decode cX8_isStation 0 = .ok (.iload_n 1, 1) := by decide +kernel
theorem dX8_isStation_1 : decode cX8_isStation 1 = .ok (.iconst 0, 1) := by decide +kernel
theorem dX8_isStation_2 : decode cX8_isStation 2 = .ok (.aload_n 0, 1) := by decide +kernel
theorem dX8_isStation_3 : decode cX8_isStation 3 = .ok (.getfield 140, 3) := by decide +kernel
theorem dX8_isStation_6 : decode cX8_isStation 6 = .ok (.iconst 1, 1) := by decide +kernel
theorem dX8_isStation_7 : decode cX8_isStation 7 = .ok (.isub, 1) := by decide +kernel
theorem dX8_isStation_8 : decode cX8_isStation 8 = .ok (.invokestatic 144, 3) := by decide +kernel
theorem dX8_isStation_11 : decode cX8_isStation 11 = .ok (.ireturn, 1) := by decide +kernel
theorem dX8_isTrunk_0 : decode cX8_isTrunk 0 = .ok (.iload_n 1, 1) := by decide +kernel
theorem dX8_isTrunk_1 : decode cX8_isTrunk 1 = .ok (.iconst 0, 1) := by decide +kernel
theorem dX8_isTrunk_2 : decode cX8_isTrunk 2 = .ok (.aload_n 0, 1) := by decide +kernel
theorem dX8_isTrunk_3 : decode cX8_isTrunk 3 = .ok (.getfield 148, 3) := by decide +kernel
theorem dX8_isTrunk_6 : decode cX8_isTrunk 6 = .ok (.iconst 1, 1) := by decide +kernel
theorem dX8_isTrunk_7 : decode cX8_isTrunk 7 = .ok (.isub, 1) := by decide +kernel
theorem dX8_isTrunk_8 : decode cX8_isTrunk 8 = .ok (.invokestatic 144, 3) := by decide +kernel
theorem dX8_isTrunk_11 : decode cX8_isTrunk 11 = .ok (.ireturn, 1) := by decide +kernel
theorem dX8_isRaft_0 : decode cX8_isRaft 0 = .ok (.iload_n 1, 1) := by decide +kernel
theorem dX8_isRaft_1 : decode cX8_isRaft 1 = .ok (.iconst 0, 1) := by decide +kernel
theorem dX8_isRaft_2 : decode cX8_isRaft 2 = .ok (.aload_n 0, 1) := by decide +kernel
theorem dX8_isRaft_3 : decode cX8_isRaft 3 = .ok (.getfield 151, 3) := by decide +kernel
theorem dX8_isRaft_6 : decode cX8_isRaft 6 = .ok (.iconst 1, 1) := by decide +kernel
theorem dX8_isRaft_7 : decode cX8_isRaft 7 = .ok (.isub, 1) := by decide +kernel
theorem dX8_isRaft_8 : decode cX8_isRaft 8 = .ok (.invokestatic 144, 3) := by decide +kernel
theorem dX8_isRaft_11 : decode cX8_isRaft 11 = .ok (.ifCond .eq 17, 3) := by decide +kernel
theorem dX8_isRaft_14 : decode cX8_isRaft 14 = .ok (.aload_n 0, 1) := by decide +kernel
theorem dX8_isRaft_15 : decode cX8_isRaft 15 = .ok (.getfield 71, 3) := by decide +kernel
theorem dX8_isRaft_18 : decode cX8_isRaft 18 = .ok (.iload_n 1, 1) := by decide +kernel
theorem dX8_isRaft_19 : decode cX8_isRaft 19 = .ok (.iaload, 1) := by decide +kernel
theorem dX8_isRaft_20 : decode cX8_isRaft 20 = .ok (.iload_n 2, 1) := by decide +kernel
theorem dX8_isRaft_21 : decode cX8_isRaft 21 = .ok (.if_icmp .ne 7, 3) := by decide +kernel
theorem dX8_isRaft_24 : decode cX8_isRaft 24 = .ok (.iconst 1, 1) := by decide +kernel
theorem dX8_isRaft_25 : decode cX8_isRaft 25 = .ok (.goto 4, 3) := by decide +kernel
theorem dX8_isRaft_28 : decode cX8_isRaft 28 = .ok (.iconst 0, 1) := by decide +kernel
theorem dX8_isRaft_29 : decode cX8_isRaft 29 = .ok (.ireturn, 1) := by decide +kernel
theorem dX8_station_0 : decode cX8_station 0 = .ok (.aload_n 0, 1) := by decide +kernel
theorem dX8_station_1 : decode cX8_station 1 = .ok (.getfield 140, 3) := by decide +kernel
theorem dX8_station_4 : decode cX8_station 4 = .ok (.bipush 12, 2) := by decide +kernel
theorem dX8_station_6 : decode cX8_station 6 = .ok (.if_icmp .ne 5, 3) := by decide +kernel
theorem dX8_station_9 : decode cX8_station 9 = .ok (.iconst (-1), 1) := by decide +kernel
theorem dX8_station_10 : decode cX8_station 10 = .ok (.ireturn, 1) := by decide +kernel
theorem dX8_station_11 : decode cX8_station 11 = .ok (.aload_n 0, 1) := by decide +kernel
theorem dX8_station_12 : decode cX8_station 12 = .ok (.getfield 140, 3) := by decide +kernel
theorem dX8_station_15 : decode cX8_station 15 = .ok (.ifCond .le 142, 3) := by decide +kernel
theorem dX8_station_18 : decode cX8_station 18 = .ok (.aload_n 0, 1) := by decide +kernel
theorem dX8_station_19 : decode cX8_station 19 = .ok (.iload_n 1, 1) := by decide +kernel
theorem dX8_station_20 : decode cX8_station 20 = .ok (.invokevirtual 154, 3) := by decide +kernel
theorem dX8_station_23 : decode cX8_station 23 = .ok (.ifCond .eq 58, 3) := by decide +kernel
theorem dX8_station_26 : decode cX8_station 26 = .ok (.iload_n 2, 1) := by decide +kernel
theorem dX8_station_27 : decode cX8_station 27 = .ok (.ifCond .lt 54, 3) := by decide +kernel
theorem dX8_station_30 : decode cX8_station 30 = .ok (.iload_n 2, 1) := by decide +kernel
theorem dX8_station_31 : decode cX8_station 31 = .ok (.ldc 158, 2) := by decide +kernel
theorem dX8_station_33 : decode cX8_station 33 = .ok (.idiv, 1) := by decide +kernel
theorem dX8_station_34 : decode cX8_station 34 = .ok (.iconst 1, 1) := by decide +kernel
theorem dX8_station_35 : decode cX8_station 35 = .ok (.bipush 20, 2) := by decide +kernel
theorem dX8_station_37 : decode cX8_station 37 = .ok (.invokestatic 144, 3) := by decide +kernel
theorem dX8_station_40 : decode cX8_station 40 = .ok (.ifCond .eq 41, 3) := by decide +kernel
theorem dX8_station_43 : decode cX8_station 43 = .ok (.iload_n 2, 1) := by decide +kernel
theorem dX8_station_44 : decode cX8_station 44 = .ok (.sipush 1000, 3) := by decide +kernel
theorem dX8_station_47 : decode cX8_station 47 = .ok (.idiv, 1) := by decide +kernel
theorem dX8_station_48 : decode cX8_station 48 = .ok (.bipush 100, 2) := by decide +kernel
theorem dX8_station_50 : decode cX8_station 50 = .ok (.irem, 1) := by decide +kernel
theorem dX8_station_51 : decode cX8_station 51 = .ok (.iconst 1, 1) := by decide +kernel
theorem dX8_station_52 : decode cX8_station 52 = .ok (.bipush 60, 2) := by decide +kernel
theorem dX8_station_54 : decode cX8_station 54 = .ok (.invokestatic 144, 3) := by decide +kernel
theorem dX8_station_57 : decode cX8_station 57 = .ok (.ifCond .eq 24, 3) := by decide +kernel
theorem dX8_station_60 : decode cX8_station 60 = .ok (.iload_n 2, 1) := by decide +kernel
theorem dX8_station_61 : decode cX8_station 61 = .ok (.sipush 1000, 3) := by decide +kernel
theorem dX8_station_64 : decode cX8_station 64 = .ok (.irem, 1) := by decide +kernel
theorem dX8_station_65 : decode cX8_station 65 = .ok (.bipush 50, 2) := by decide +kernel
theorem dX8_station_67 : decode cX8_station 67 = .ok (.if_icmp .gt 14, 3) := by decide +kernel
theorem dX8_station_70 : decode cX8_station 70 = .ok (.iload_n 3, 1) := by decide +kernel
theorem dX8_station_71 : decode cX8_station 71 = .ok (.iconst 0, 1) := by decide +kernel
theorem dX8_station_72 : decode cX8_station 72 = .ok (.sipush 1000, 3) := by decide +kernel
theorem dX8_station_75 : decode cX8_station 75 = .ok (.invokestatic 144, 3) := by decide +kernel
theorem dX8_station_78 : decode cX8_station 78 = .ok (.ifCond .ne 5, 3) := by decide +kernel
theorem dX8_station_81 : decode cX8_station 81 = .ok (.iconst (-1), 1) := by decide +kernel
theorem dX8_station_82 : decode cX8_station 82 = .ok (.ireturn, 1) := by decide +kernel
theorem dX8_station_83 : decode cX8_station 83 = .ok (.aload_n 0, 1) := by decide +kernel
theorem dX8_station_84 : decode cX8_station 84 = .ok (.getfield 9, 3) := by decide +kernel
theorem dX8_station_87 : decode cX8_station 87 = .ok (.aload_n 0, 1) := by decide +kernel
theorem dX8_station_88 : decode cX8_station 88 = .ok (.getfield 140, 3) := by decide +kernel
theorem dX8_station_91 : decode cX8_station 91 = .ok (.iload_n 1, 1) := by decide +kernel
theorem dX8_station_92 : decode cX8_station 92 = .ok (.iastore, 1) := by decide +kernel
theorem dX8_station_93 : decode cX8_station 93 = .ok (.aload_n 0, 1) := by decide +kernel
theorem dX8_station_94 : decode cX8_station 94 = .ok (.getfield 13, 3) := by decide +kernel
theorem dX8_station_97 : decode cX8_station 97 = .ok (.aload_n 0, 1) := by decide +kernel
theorem dX8_station_98 : decode cX8_station 98 = .ok (.getfield 140, 3) := by decide +kernel
theorem dX8_station_101 : decode cX8_station 101 = .ok (.iload_n 2, 1) := by decide +kernel
theorem dX8_station_102 : decode cX8_station 102 = .ok (.ldc 158, 2) := by decide +kernel
theorem dX8_station_104 : decode cX8_station 104 = .ok (.idiv, 1) := by decide +kernel
theorem dX8_station_105 : decode cX8_station 105 = .ok (.iastore, 1) := by decide +kernel
theorem dX8_station_106 : decode cX8_station 106 = .ok (.aload_n 0, 1) := by decide +kernel
theorem dX8_station_107 : decode cX8_station 107 = .ok (.getfield 16, 3) := by decide +kernel
theorem dX8_station_110 : decode cX8_station 110 = .ok (.aload_n 0, 1) := by decide +kernel
theorem dX8_station_111 : decode cX8_station 111 = .ok (.getfield 140, 3) := by decide +kernel
theorem dX8_station_114 : decode cX8_station 114 = .ok (.iload_n 2, 1) := by decide +kernel
theorem dX8_station_115 : decode cX8_station 115 = .ok (.sipush 1000, 3) := by decide +kernel
theorem dX8_station_118 : decode cX8_station 118 = .ok (.idiv, 1) := by decide +kernel
theorem dX8_station_119 : decode cX8_station 119 = .ok (.bipush 100, 2) := by decide +kernel
theorem dX8_station_121 : decode cX8_station 121 = .ok (.irem, 1) := by decide +kernel
theorem dX8_station_122 : decode cX8_station 122 = .ok (.iastore, 1) := by decide +kernel
theorem dX8_station_123 : decode cX8_station 123 = .ok (.aload_n 0, 1) := by decide +kernel
theorem dX8_station_124 : decode cX8_station 124 = .ok (.getfield 19, 3) := by decide +kernel
theorem dX8_station_127 : decode cX8_station 127 = .ok (.aload_n 0, 1) := by decide +kernel
theorem dX8_station_128 : decode cX8_station 128 = .ok (.getfield 140, 3) := by decide +kernel
theorem dX8_station_131 : decode cX8_station 131 = .ok (.iload_n 2, 1) := by decide +kernel
theorem dX8_station_132 : decode cX8_station 132 = .ok (.sipush 1000, 3) := by decide +kernel
theorem dX8_station_135 : decode cX8_station 135 = .ok (.irem, 1) := by decide +kernel
theorem dX8_station_136 : decode cX8_station 136 = .ok (.iastore, 1) := by decide +kernel
theorem dX8_station_137 : decode cX8_station 137 = .ok (.aload_n 0, 1) := by decide +kernel
theorem dX8_station_138 : decode cX8_station 138 = .ok (.getfield 22, 3) := by decide +kernel
theorem dX8_station_141 : decode cX8_station 141 = .ok (.aload_n 0, 1) := by decide +kernel
theorem dX8_station_142 : decode cX8_station 142 = .ok (.getfield 140, 3) := by decide +kernel
theorem dX8_station_145 : decode cX8_station 145 = .ok (.iload_n 3, 1) := by decide +kernel
theorem dX8_station_146 : decode cX8_station 146 = .ok (.iastore, 1) := by decide +kernel
theorem dX8_station_147 : decode cX8_station 147 = .ok (.aload_n 0, 1) := by decide +kernel
theorem dX8_station_148 : decode cX8_station 148 = .ok (.getfield 25, 3) := by decide +kernel
theorem dX8_station_151 : decode cX8_station 151 = .ok (.aload_n 0, 1) := by decide +kernel
theorem dX8_station_152 : decode cX8_station 152 = .ok (.getfield 140, 3) := by decide +kernel
theorem dX8_station_155 : decode cX8_station 155 = .ok (.iload_n 3, 1) := by decide +kernel
theorem dX8_station_156 : decode cX8_station 156 = .ok (.iastore, 1) := by decide +kernel
theorem dX8_station_157 : decode cX8_station 157 = .ok (.aload_n 0, 1) := by decide +kernel
theorem dX8_station_158 : decode cX8_station 158 = .ok (.getfield 28, 3) := by decide +kernel
theorem dX8_station_161 : decode cX8_station 161 = .ok (.aload_n 0, 1) := by decide +kernel
theorem dX8_station_162 : decode cX8_station 162 = .ok (.getfield 140, 3) := by decide +kernel
theorem dX8_station_165 : decode cX8_station 165 = .ok (.iload 4, 2) := by decide +kernel
theorem dX8_station_167 : decode cX8_station 167 = .ok (.ifCond .ne 10, 3) := by decide +kernel
theorem dX8_station_170 : decode cX8_station 170 = .ok (.aload_n 0, 1) := by decide +kernel
theorem dX8_station_171 : decode cX8_station 171 = .ok (.getfield 140, 3) := by decide +kernel
theorem dX8_station_174 : decode cX8_station 174 = .ok (.ifCond .ne 7, 3) := by decide +kernel
theorem dX8_station_177 : decode cX8_station 177 = .ok (.iconst 1, 1) := by decide +kernel
theorem dX8_station_178 : decode cX8_station 178 = .ok (.goto 4, 3) := by decide +kernel
theorem dX8_station_181 : decode cX8_station 181 = .ok (.iconst 0, 1) := by decide +kernel
theorem dX8_station_182 : decode cX8_station 182 = .ok (.bastore, 1) := by decide +kernel
theorem dX8_station_183 : decode cX8_station 183 = .ok (.aload_n 0, 1) := by decide +kernel
theorem dX8_station_184 : decode cX8_station 184 = .ok (.dup, 1) := by decide +kernel
theorem dX8_station_185 : decode cX8_station 185 = .ok (.getfield 140, 3) := by decide +kernel
theorem dX8_station_188 : decode cX8_station 188 = .ok (.iconst 1, 1) := by decide +kernel
theorem dX8_station_189 : decode cX8_station 189 = .ok (.iadd, 1) := by decide +kernel
theorem dX8_station_190 : decode cX8_station 190 = .ok (.putfield 140, 3) := by decide +kernel
theorem dX8_station_193 : decode cX8_station 193 = .ok (.aload_n 0, 1) := by decide +kernel
theorem dX8_station_194 : decode cX8_station 194 = .ok (.getfield 140, 3) := by decide +kernel
theorem dX8_station_197 : decode cX8_station 197 = .ok (.iconst 1, 1) := by decide +kernel
theorem dX8_station_198 : decode cX8_station 198 = .ok (.isub, 1) := by decide +kernel
theorem dX8_station_199 : decode cX8_station 199 = .ok (.ireturn, 1) := by decide +kernel
theorem dX8_trunk_0 : decode cX8_trunk 0 = .ok (.iload_n 1, 1) := by decide +kernel
theorem dX8_trunk_1 : decode cX8_trunk 1 = .ok (.iconst 1, 1) := by decide +kernel
theorem dX8_trunk_2 : decode cX8_trunk 2 = .ok (.ldc 159, 2) := by decide +kernel
theorem dX8_trunk_4 : decode cX8_trunk 4 = .ok (.invokestatic 144, 3) := by decide +kernel
theorem dX8_trunk_7 : decode cX8_trunk 7 = .ok (.ifCond .eq 60, 3) := by decide +kernel
theorem dX8_trunk_10 : decode cX8_trunk 10 = .ok (.iload_n 2, 1) := by decide +kernel
theorem dX8_trunk_11 : decode cX8_trunk 11 = .ok (.ifCond .lt 56, 3) := by decide +kernel
theorem dX8_trunk_14 : decode cX8_trunk 14 = .ok (.iload_n 2, 1) := by decide +kernel
theorem dX8_trunk_15 : decode cX8_trunk 15 = .ok (.bipush 100, 2) := by decide +kernel
theorem dX8_trunk_17 : decode cX8_trunk 17 = .ok (.idiv, 1) := by decide +kernel
theorem dX8_trunk_18 : decode cX8_trunk 18 = .ok (.bipush 8, 2) := by decide +kernel
theorem dX8_trunk_20 : decode cX8_trunk 20 = .ok (.if_icmp .ge 47, 3) := by decide +kernel
theorem dX8_trunk_23 : decode cX8_trunk 23 = .ok (.iload_n 2, 1) := by decide +kernel
theorem dX8_trunk_24 : decode cX8_trunk 24 = .ok (.bipush 10, 2) := by decide +kernel
theorem dX8_trunk_26 : decode cX8_trunk 26 = .ok (.idiv, 1) := by decide +kernel
theorem dX8_trunk_27 : decode cX8_trunk 27 = .ok (.bipush 10, 2) := by decide +kernel
theorem dX8_trunk_29 : decode cX8_trunk 29 = .ok (.irem, 1) := by decide +kernel
theorem dX8_trunk_30 : decode cX8_trunk 30 = .ok (.iconst 3, 1) := by decide +kernel
theorem dX8_trunk_31 : decode cX8_trunk 31 = .ok (.if_icmp .gt 36, 3) := by decide +kernel
theorem dX8_trunk_34 : decode cX8_trunk 34 = .ok (.iload_n 2, 1) := by decide +kernel
theorem dX8_trunk_35 : decode cX8_trunk 35 = .ok (.bipush 10, 2) := by decide +kernel
theorem dX8_trunk_37 : decode cX8_trunk 37 = .ok (.irem, 1) := by decide +kernel
theorem dX8_trunk_38 : decode cX8_trunk 38 = .ok (.ifCond .eq 29, 3) := by decide +kernel
theorem dX8_trunk_41 : decode cX8_trunk 41 = .ok (.aload_n 0, 1) := by decide +kernel
theorem dX8_trunk_42 : decode cX8_trunk 42 = .ok (.iload_n 1, 1) := by decide +kernel
theorem dX8_trunk_43 : decode cX8_trunk 43 = .ok (.invokevirtual 160, 3) := by decide +kernel
theorem dX8_trunk_46 : decode cX8_trunk 46 = .ok (.iconst (-1), 1) := by decide +kernel
theorem dX8_trunk_47 : decode cX8_trunk 47 = .ok (.if_icmp .ne 20, 3) := by decide +kernel
theorem dX8_trunk_50 : decode cX8_trunk 50 = .ok (.aload_n 0, 1) := by decide +kernel
theorem dX8_trunk_51 : decode cX8_trunk 51 = .ok (.iload_n 3, 1) := by decide +kernel
theorem dX8_trunk_52 : decode cX8_trunk 52 = .ok (.invokevirtual 154, 3) := by decide +kernel
theorem dX8_trunk_55 : decode cX8_trunk 55 = .ok (.ifCond .eq 12, 3) := by decide +kernel
theorem dX8_trunk_58 : decode cX8_trunk 58 = .ok (.aload_n 0, 1) := by decide +kernel
theorem dX8_trunk_59 : decode cX8_trunk 59 = .ok (.getfield 148, 3) := by decide +kernel
theorem dX8_trunk_62 : decode cX8_trunk 62 = .ok (.bipush 120, 2) := by decide +kernel
theorem dX8_trunk_64 : decode cX8_trunk 64 = .ok (.if_icmp .ne 5, 3) := by decide +kernel
theorem dX8_trunk_67 : decode cX8_trunk 67 = .ok (.iconst (-1), 1) := by decide +kernel
theorem dX8_trunk_68 : decode cX8_trunk 68 = .ok (.ireturn, 1) := by decide +kernel
theorem dX8_trunk_69 : decode cX8_trunk 69 = .ok (.aload_n 0, 1) := by decide +kernel
theorem dX8_trunk_70 : decode cX8_trunk 70 = .ok (.getfield 38, 3) := by decide +kernel
theorem dX8_trunk_73 : decode cX8_trunk 73 = .ok (.aload_n 0, 1) := by decide +kernel
theorem dX8_trunk_74 : decode cX8_trunk 74 = .ok (.getfield 148, 3) := by decide +kernel
theorem dX8_trunk_77 : decode cX8_trunk 77 = .ok (.iload_n 1, 1) := by decide +kernel
theorem dX8_trunk_78 : decode cX8_trunk 78 = .ok (.iastore, 1) := by decide +kernel
theorem dX8_trunk_79 : decode cX8_trunk 79 = .ok (.aload_n 0, 1) := by decide +kernel
theorem dX8_trunk_80 : decode cX8_trunk 80 = .ok (.getfield 41, 3) := by decide +kernel
theorem dX8_trunk_83 : decode cX8_trunk 83 = .ok (.aload_n 0, 1) := by decide +kernel
theorem dX8_trunk_84 : decode cX8_trunk 84 = .ok (.getfield 148, 3) := by decide +kernel
theorem dX8_trunk_87 : decode cX8_trunk 87 = .ok (.iload_n 2, 1) := by decide +kernel
theorem dX8_trunk_88 : decode cX8_trunk 88 = .ok (.bipush 100, 2) := by decide +kernel
theorem dX8_trunk_90 : decode cX8_trunk 90 = .ok (.idiv, 1) := by decide +kernel
theorem dX8_trunk_91 : decode cX8_trunk 91 = .ok (.iastore, 1) := by decide +kernel
theorem dX8_trunk_92 : decode cX8_trunk 92 = .ok (.aload_n 0, 1) := by decide +kernel
theorem dX8_trunk_93 : decode cX8_trunk 93 = .ok (.getfield 44, 3) := by decide +kernel
theorem dX8_trunk_96 : decode cX8_trunk 96 = .ok (.aload_n 0, 1) := by decide +kernel
theorem dX8_trunk_97 : decode cX8_trunk 97 = .ok (.getfield 148, 3) := by decide +kernel
theorem dX8_trunk_100 : decode cX8_trunk 100 = .ok (.iload_n 2, 1) := by decide +kernel
theorem dX8_trunk_101 : decode cX8_trunk 101 = .ok (.bipush 10, 2) := by decide +kernel
theorem dX8_trunk_103 : decode cX8_trunk 103 = .ok (.idiv, 1) := by decide +kernel
theorem dX8_trunk_104 : decode cX8_trunk 104 = .ok (.bipush 10, 2) := by decide +kernel
theorem dX8_trunk_106 : decode cX8_trunk 106 = .ok (.irem, 1) := by decide +kernel
theorem dX8_trunk_107 : decode cX8_trunk 107 = .ok (.iastore, 1) := by decide +kernel
theorem dX8_trunk_108 : decode cX8_trunk 108 = .ok (.aload_n 0, 1) := by decide +kernel
theorem dX8_trunk_109 : decode cX8_trunk 109 = .ok (.getfield 47, 3) := by decide +kernel
theorem dX8_trunk_112 : decode cX8_trunk 112 = .ok (.aload_n 0, 1) := by decide +kernel
theorem dX8_trunk_113 : decode cX8_trunk 113 = .ok (.getfield 148, 3) := by decide +kernel
theorem dX8_trunk_116 : decode cX8_trunk 116 = .ok (.iload_n 2, 1) := by decide +kernel
theorem dX8_trunk_117 : decode cX8_trunk 117 = .ok (.bipush 10, 2) := by decide +kernel
theorem dX8_trunk_119 : decode cX8_trunk 119 = .ok (.irem, 1) := by decide +kernel
theorem dX8_trunk_120 : decode cX8_trunk 120 = .ok (.iastore, 1) := by decide +kernel
theorem dX8_trunk_121 : decode cX8_trunk 121 = .ok (.aload_n 0, 1) := by decide +kernel
theorem dX8_trunk_122 : decode cX8_trunk 122 = .ok (.getfield 53, 3) := by decide +kernel
theorem dX8_trunk_125 : decode cX8_trunk 125 = .ok (.aload_n 0, 1) := by decide +kernel
theorem dX8_trunk_126 : decode cX8_trunk 126 = .ok (.getfield 148, 3) := by decide +kernel
theorem dX8_trunk_129 : decode cX8_trunk 129 = .ok (.iload_n 3, 1) := by decide +kernel
theorem dX8_trunk_130 : decode cX8_trunk 130 = .ok (.iastore, 1) := by decide +kernel
theorem dX8_trunk_131 : decode cX8_trunk 131 = .ok (.aload_n 0, 1) := by decide +kernel
theorem dX8_trunk_132 : decode cX8_trunk 132 = .ok (.getfield 56, 3) := by decide +kernel
theorem dX8_trunk_135 : decode cX8_trunk 135 = .ok (.aload_n 0, 1) := by decide +kernel
theorem dX8_trunk_136 : decode cX8_trunk 136 = .ok (.getfield 148, 3) := by decide +kernel
theorem dX8_trunk_139 : decode cX8_trunk 139 = .ok (.iconst (-1), 1) := by decide +kernel
theorem dX8_trunk_140 : decode cX8_trunk 140 = .ok (.iastore, 1) := by decide +kernel
theorem dX8_trunk_141 : decode cX8_trunk 141 = .ok (.aload_n 0, 1) := by decide +kernel
theorem dX8_trunk_142 : decode cX8_trunk 142 = .ok (.getfield 65, 3) := by decide +kernel
theorem dX8_trunk_145 : decode cX8_trunk 145 = .ok (.aload_n 0, 1) := by decide +kernel
theorem dX8_trunk_146 : decode cX8_trunk 146 = .ok (.getfield 148, 3) := by decide +kernel
theorem dX8_trunk_149 : decode cX8_trunk 149 = .ok (.iconst (-1), 1) := by decide +kernel
theorem dX8_trunk_150 : decode cX8_trunk 150 = .ok (.iastore, 1) := by decide +kernel
theorem dX8_trunk_151 : decode cX8_trunk 151 = .ok (.aload_n 0, 1) := by decide +kernel
theorem dX8_trunk_152 : decode cX8_trunk 152 = .ok (.dup, 1) := by decide +kernel
theorem dX8_trunk_153 : decode cX8_trunk 153 = .ok (.getfield 148, 3) := by decide +kernel
theorem dX8_trunk_156 : decode cX8_trunk 156 = .ok (.iconst 1, 1) := by decide +kernel
theorem dX8_trunk_157 : decode cX8_trunk 157 = .ok (.iadd, 1) := by decide +kernel
theorem dX8_trunk_158 : decode cX8_trunk 158 = .ok (.putfield 148, 3) := by decide +kernel
theorem dX8_trunk_161 : decode cX8_trunk 161 = .ok (.aload_n 0, 1) := by decide +kernel
theorem dX8_trunk_162 : decode cX8_trunk 162 = .ok (.getfield 148, 3) := by decide +kernel
theorem dX8_trunk_165 : decode cX8_trunk 165 = .ok (.iconst 1, 1) := by decide +kernel
theorem dX8_trunk_166 : decode cX8_trunk 166 = .ok (.isub, 1) := by decide +kernel
theorem dX8_trunk_167 : decode cX8_trunk 167 = .ok (.ireturn, 1) := by decide +kernel
theorem dX8_find_0 : decode cX8_find 0 = .ok (.iconst 0, 1) := by decide +kernel
theorem dX8_find_1 : decode cX8_find 1 = .ok (.istore_n 2, 1) := by decide +kernel
theorem dX8_find_2 : decode cX8_find 2 = .ok (.iload_n 2, 1) := by decide +kernel
theorem dX8_find_3 : decode cX8_find 3 = .ok (.aload_n 0, 1) := by decide +kernel
theorem dX8_find_4 : decode cX8_find 4 = .ok (.getfield 148, 3) := by decide +kernel
theorem dX8_find_7 : decode cX8_find 7 = .ok (.if_icmp .ge 21, 3) := by decide +kernel
theorem dX8_find_10 : decode cX8_find 10 = .ok (.aload_n 0, 1) := by decide +kernel
theorem dX8_find_11 : decode cX8_find 11 = .ok (.getfield 38, 3) := by decide +kernel
theorem dX8_find_14 : decode cX8_find 14 = .ok (.iload_n 2, 1) := by decide +kernel
theorem dX8_find_15 : decode cX8_find 15 = .ok (.iaload, 1) := by decide +kernel
theorem dX8_find_16 : decode cX8_find 16 = .ok (.iload_n 1, 1) := by decide +kernel
theorem dX8_find_17 : decode cX8_find 17 = .ok (.if_icmp .ne 5, 3) := by decide +kernel
theorem dX8_find_20 : decode cX8_find 20 = .ok (.iload_n 2, 1) := by decide +kernel
theorem dX8_find_21 : decode cX8_find 21 = .ok (.ireturn, 1) := by decide +kernel
theorem dX8_find_22 : decode cX8_find 22 = .ok (.iinc 2 1, 3) := by decide +kernel
theorem dX8_find_25 : decode cX8_find 25 = .ok (.goto (-23), 3) := by decide +kernel
theorem dX8_find_28 : decode cX8_find 28 = .ok (.iconst (-1), 1) := by decide +kernel
theorem dX8_find_29 : decode cX8_find 29 = .ok (.ireturn, 1) := by decide +kernel
theorem dX8_isNext_0 : decode cX8_isNext 0 = .ok (.iconst 0, 1) := by decide +kernel
theorem dX8_isNext_1 : decode cX8_isNext 1 = .ok (.istore_n 2, 1) := by decide +kernel
theorem dX8_isNext_2 : decode cX8_isNext 2 = .ok (.iload_n 2, 1) := by decide +kernel
theorem dX8_isNext_3 : decode cX8_isNext 3 = .ok (.aload_n 0, 1) := by decide +kernel
theorem dX8_isNext_4 : decode cX8_isNext 4 = .ok (.getfield 164, 3) := by decide +kernel
theorem dX8_isNext_7 : decode cX8_isNext 7 = .ok (.if_icmp .ge 21, 3) := by decide +kernel
theorem dX8_isNext_10 : decode cX8_isNext 10 = .ok (.aload_n 0, 1) := by decide +kernel
theorem dX8_isNext_11 : decode cX8_isNext 11 = .ok (.getfield 68, 3) := by decide +kernel
theorem dX8_isNext_14 : decode cX8_isNext 14 = .ok (.iload_n 2, 1) := by decide +kernel
theorem dX8_isNext_15 : decode cX8_isNext 15 = .ok (.iaload, 1) := by decide +kernel
theorem dX8_isNext_16 : decode cX8_isNext 16 = .ok (.iload_n 1, 1) := by decide +kernel
theorem dX8_isNext_17 : decode cX8_isNext 17 = .ok (.if_icmp .ne 5, 3) := by decide +kernel
theorem dX8_isNext_20 : decode cX8_isNext 20 = .ok (.iconst 1, 1) := by decide +kernel
theorem dX8_isNext_21 : decode cX8_isNext 21 = .ok (.ireturn, 1) := by decide +kernel
theorem dX8_isNext_22 : decode cX8_isNext 22 = .ok (.iinc 2 1, 3) := by decide +kernel
theorem dX8_isNext_25 : decode cX8_isNext 25 = .ok (.goto (-23), 3) := by decide +kernel
theorem dX8_isNext_28 : decode cX8_isNext 28 = .ok (.iconst 0, 1) := by decide +kernel
theorem dX8_isNext_29 : decode cX8_isNext 29 = .ok (.ireturn, 1) := by decide +kernel
theorem dX8_put_0 : decode cX8_put 0 = .ok (.aload_n 0, 1) := by decide +kernel
theorem dX8_put_1 : decode cX8_put 1 = .ok (.iload_n 1, 1) := by decide +kernel
theorem dX8_put_2 : decode cX8_put 2 = .ok (.invokevirtual 167, 3) := by decide +kernel
theorem dX8_put_5 : decode cX8_put 5 = .ok (.ifCond .eq 29, 3) := by decide +kernel
theorem dX8_put_8 : decode cX8_put 8 = .ok (.aload_n 0, 1) := by decide +kernel
theorem dX8_put_9 : decode cX8_put 9 = .ok (.getfield 50, 3) := by decide +kernel
theorem dX8_put_12 : decode cX8_put 12 = .ok (.iload_n 1, 1) := by decide +kernel
theorem dX8_put_13 : decode cX8_put 13 = .ok (.iaload, 1) := by decide +kernel
theorem dX8_put_14 : decode cX8_put 14 = .ok (.ifCond .ne 20, 3) := by decide +kernel
theorem dX8_put_17 : decode cX8_put 17 = .ok (.aload_n 0, 1) := by decide +kernel
theorem dX8_put_18 : decode cX8_put 18 = .ok (.iload_n 1, 1) := by decide +kernel
theorem dX8_put_19 : decode cX8_put 19 = .ok (.invokevirtual 170, 3) := by decide +kernel
theorem dX8_put_22 : decode cX8_put 22 = .ok (.ifCond .ne 12, 3) := by decide +kernel
theorem dX8_put_25 : decode cX8_put 25 = .ok (.aload_n 0, 1) := by decide +kernel
theorem dX8_put_26 : decode cX8_put 26 = .ok (.getfield 164, 3) := by decide +kernel
theorem dX8_put_29 : decode cX8_put 29 = .ok (.bipush 9, 2) := by decide +kernel
theorem dX8_put_31 : decode cX8_put 31 = .ok (.if_icmp .ne 5, 3) := by decide +kernel
theorem dX8_put_34 : decode cX8_put 34 = .ok (.iconst (-1), 1) := by decide +kernel
theorem dX8_put_35 : decode cX8_put 35 = .ok (.ireturn, 1) := by decide +kernel
theorem dX8_put_36 : decode cX8_put 36 = .ok (.aload_n 0, 1) := by decide +kernel
theorem dX8_put_37 : decode cX8_put 37 = .ok (.getfield 164, 3) := by decide +kernel
theorem dX8_put_40 : decode cX8_put 40 = .ok (.ifCond .le 25, 3) := by decide +kernel
theorem dX8_put_43 : decode cX8_put 43 = .ok (.aload_n 0, 1) := by decide +kernel
theorem dX8_put_44 : decode cX8_put 44 = .ok (.getfield 53, 3) := by decide +kernel
theorem dX8_put_47 : decode cX8_put 47 = .ok (.aload_n 0, 1) := by decide +kernel
theorem dX8_put_48 : decode cX8_put 48 = .ok (.getfield 68, 3) := by decide +kernel
theorem dX8_put_51 : decode cX8_put 51 = .ok (.iconst 0, 1) := by decide +kernel
theorem dX8_put_52 : decode cX8_put 52 = .ok (.iaload, 1) := by decide +kernel
theorem dX8_put_53 : decode cX8_put 53 = .ok (.iaload, 1) := by decide +kernel
theorem dX8_put_54 : decode cX8_put 54 = .ok (.aload_n 0, 1) := by decide +kernel
theorem dX8_put_55 : decode cX8_put 55 = .ok (.getfield 53, 3) := by decide +kernel
theorem dX8_put_58 : decode cX8_put 58 = .ok (.iload_n 1, 1) := by decide +kernel
theorem dX8_put_59 : decode cX8_put 59 = .ok (.iaload, 1) := by decide +kernel
theorem dX8_put_60 : decode cX8_put 60 = .ok (.if_icmp .eq 5, 3) := by decide +kernel
theorem dX8_put_63 : decode cX8_put 63 = .ok (.iconst (-1), 1) := by decide +kernel
theorem dX8_put_64 : decode cX8_put 64 = .ok (.ireturn, 1) := by decide +kernel
theorem dX8_put_65 : decode cX8_put 65 = .ok (.aload_n 0, 1) := by decide +kernel
theorem dX8_put_66 : decode cX8_put 66 = .ok (.getfield 68, 3) := by decide +kernel
theorem dX8_put_69 : decode cX8_put 69 = .ok (.aload_n 0, 1) := by decide +kernel
theorem dX8_put_70 : decode cX8_put 70 = .ok (.getfield 164, 3) := by decide +kernel
theorem dX8_put_73 : decode cX8_put 73 = .ok (.iload_n 1, 1) := by decide +kernel
theorem dX8_put_74 : decode cX8_put 74 = .ok (.iastore, 1) := by decide +kernel
theorem dX8_put_75 : decode cX8_put 75 = .ok (.aload_n 0, 1) := by decide +kernel
theorem dX8_put_76 : decode cX8_put 76 = .ok (.dup, 1) := by decide +kernel
theorem dX8_put_77 : decode cX8_put 77 = .ok (.getfield 164, 3) := by decide +kernel
theorem dX8_put_80 : decode cX8_put 80 = .ok (.iconst 1, 1) := by decide +kernel
theorem dX8_put_81 : decode cX8_put 81 = .ok (.iadd, 1) := by decide +kernel
theorem dX8_put_82 : decode cX8_put 82 = .ok (.putfield 164, 3) := by decide +kernel
theorem dX8_put_85 : decode cX8_put 85 = .ok (.aload_n 0, 1) := by decide +kernel
theorem dX8_put_86 : decode cX8_put 86 = .ok (.getfield 164, 3) := by decide +kernel
theorem dX8_put_89 : decode cX8_put 89 = .ok (.ireturn, 1) := by decide +kernel
theorem dX8_newRaft_0 : decode cX8_newRaft 0 = .ok (.aload_n 0, 1) := by decide +kernel
theorem dX8_newRaft_1 : decode cX8_newRaft 1 = .ok (.getfield 71, 3) := by decide +kernel
theorem dX8_newRaft_4 : decode cX8_newRaft 4 = .ok (.aload_n 0, 1) := by decide +kernel
theorem dX8_newRaft_5 : decode cX8_newRaft 5 = .ok (.getfield 151, 3) := by decide +kernel
theorem dX8_newRaft_8 : decode cX8_newRaft 8 = .ok (.iconst 0, 1) := by decide +kernel
theorem dX8_newRaft_9 : decode cX8_newRaft 9 = .ok (.iastore, 1) := by decide +kernel
theorem dX8_newRaft_10 : decode cX8_newRaft 10 = .ok (.aload_n 0, 1) := by decide +kernel
theorem dX8_newRaft_11 : decode cX8_newRaft 11 = .ok (.getfield 74, 3) := by decide +kernel
theorem dX8_newRaft_14 : decode cX8_newRaft 14 = .ok (.aload_n 0, 1) := by decide +kernel
theorem dX8_newRaft_15 : decode cX8_newRaft 15 = .ok (.getfield 151, 3) := by decide +kernel
theorem dX8_newRaft_18 : decode cX8_newRaft 18 = .ok (.iload_n 1, 1) := by decide +kernel
theorem dX8_newRaft_19 : decode cX8_newRaft 19 = .ok (.iastore, 1) := by decide +kernel
theorem dX8_newRaft_20 : decode cX8_newRaft 20 = .ok (.aload_n 0, 1) := by decide +kernel
